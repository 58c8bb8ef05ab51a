/-! ===== AB: an abstract machine over the kit's W: whole numbers for ints, a function for the heap; a method's text as a predicate transformer ===== -/
abbrev AV : Type := Int ⊕ (Option Nat ⊕ (Int ⊕ UInt64))
abbrev aI (v : Int) : AV := .inl v
abbrev aR (r : Option Nat) : AV := .inr (.inl r)
abbrev aL (v : Int) : AV := .inr (.inr (.inl v))
abbrev aD (v : UInt64) : AV := .inr (.inr (.inr v))
abbrev AC : Type := (Nat × List AV) ⊕ ((Nat × Nat × (Int → Int)) ⊕ (Nat × Nat × (Int → Option Nat)))
abbrev aO (ci : Nat) (fs : List AV) : AC := .inl (ci, fs)
abbrev aP (t n : Nat) (f : Int → Int) : AC := .inr (.inl (t, n, f))
abbrev aQ (t n : Nat) (f : Int → Option Nat) : AC := .inr (.inr (t, n, f))
abbrev AH : Type := Nat → Option AC
abbrev ALs : Type := List (Option AV)
abbrev AVt : Type := Nat → ALs → List AV → AH → Nat → Nat → Prop
abbrev ATr : Type := List AV → AH → (Option AV → AH → Prop) → Prop
/-- a call: 0 virtual, 1 special, 2 static; the receiver's class by its number; arguments (the receiver too), cells, slots, the transformer -/
abbrev ACS : Type := Nat × Nat × Nat × Nat × Nat × ATr
def ab_up (h : AH) (a : Nat) (c : AC) : AH := fun b => if b = a then some c else h b
/-- rows of numbers in a row of references, all new -/
def ab_grid (h : AH) (a n m : Nat) : AH := fun b => if b = a then some (.inr (.inr (3, n, fun j => if 0 ≤ j ∧ j < (n : Int) then some (a + 1 + j.toNat) else none))) else if a < b ∧ b ≤ a + n then some (.inr (.inl (0, m, fun _ => 0))) else h b
def ab_uf {α : Type} (f : Int → α) (i : Int) (v : α) : Int → α := fun j => if j = i then v else f j
def ab_in (v : Int) : Prop := -2147483648 ≤ v ∧ v ≤ 2147483647
def ab_2 : AV → Bool
  | .inr (.inr _) => true
  | _ => false
def ab_g : ALs → Nat → Option AV
  | [], _ => none
  | x :: _, 0 => x
  | _ :: l, n + 1 => ab_g l n
def ab_k2 (x : Option AV) : Option AV := match x with
  | some (.inr (.inr _)) => none
  | y => y
def ab_st : ALs → Nat → AV → Option ALs
  | [], _, _ => none
  | _ :: l, 0, v => some (some v :: l)
  | x :: l, n + 1, v => (ab_st l n v).map (fun l' => (if n = 0 then ab_k2 x else x) :: l')
/-- a slot that the second half of a wide value takes -/
def ab_cl : ALs → Nat → Option ALs
  | [], _ => none
  | _ :: l, 0 => some (none :: l)
  | x :: l, n + 1 => (ab_cl l n).map (fun l' => x :: l')
def ab_pop : Nat → List AV → List AV → Option (List AV × List AV)
  | 0, acc, st => some (acc, st)
  | _ + 1, _, [] => none
  | n + 1, acc, v :: st => ab_pop n (v :: acc) st
def ab_sz : List AV → Nat
  | [] => 0
  | v :: l => (if ab_2 v then 2 else 1) + ab_sz l
def ab_ret : Option AV → List AV → List AV
  | some v, r => v :: r
  | none, r => r
def ab_f4 (i : Fin 4) : Nat := i.val
def ab_tg (pc : Nat) (off : Int) (k : Nat → Prop) : Prop := 0 ≤ (pc : Int) + off ∧ k ((pc : Int) + off).toNat
def ab_I (st : List AV) (k : Int → List AV → Prop) : Prop := match st with
  | .inl a :: r => k a r
  | _ => False
def ab_II (st : List AV) (k : Int → Int → List AV → Prop) : Prop := match st with
  | .inl b :: .inl a :: r => k a b r
  | _ => False
def ab_A (st : List AV) (k : Option Nat → List AV → Prop) : Prop := match st with
  | .inr (.inl a) :: r => k a r
  | _ => False
def ab_Rf (st : List AV) (k : Nat → List AV → Prop) : Prop := match st with
  | .inr (.inl (some a)) :: r => k a r
  | _ => False
def ab_VR (st : List AV) (k : AV → Nat → List AV → Prop) : Prop := match st with
  | v :: .inr (.inl (some a)) :: r => k v a r
  | _ => False
def ab_IR (st : List AV) (k : Int → Nat → List AV → Prop) : Prop := match st with
  | .inl i :: .inr (.inl (some a)) :: r => k i a r
  | _ => False
def ab_VIR (st : List AV) (k : AV → Int → Nat → List AV → Prop) : Prop := match st with
  | v :: .inl i :: .inr (.inl (some a)) :: r => k v i a r
  | _ => False
def ab_1 (st : List AV) (k : AV → List AV → Prop) : Prop := match st with
  | .inl a :: r => k (.inl a) r
  | .inr (.inl a) :: r => k (.inr (.inl a)) r
  | _ => False
def ab_LL (st : List AV) (k : Int → Int → List AV → Prop) : Prop := match st with
  | .inr (.inr (.inl b)) :: .inr (.inr (.inl a)) :: r => k a b r
  | _ => False
def ab_DD (st : List AV) (k : UInt64 → UInt64 → List AV → Prop) : Prop := match st with
  | .inr (.inr (.inr b)) :: .inr (.inr (.inr a)) :: r => k a b r
  | _ => False
def ab_ob (c : Option AC) (k : Nat → List AV → Prop) : Prop := match c with
  | some (.inl (ci, fs)) => k ci fs
  | _ => False
def ab_pr (c : Option AC) (k : Nat → Nat → (Int → Int) → Prop) : Prop := match c with
  | some (.inr (.inl (t, n, f))) => k t n f
  | _ => False
def ab_qr (c : Option AC) (k : Nat → Nat → (Int → Option Nat) → Prop) : Prop := match c with
  | some (.inr (.inr (t, n, f))) => k t n f
  | _ => False
def ab_ln (c : Option AC) (k : Nat → Prop) : Prop := match c with
  | some (.inr (.inl (_, n, _))) => k n
  | some (.inr (.inr (_, n, _))) => k n
  | _ => False
def ab_so {α : Type} (o : Option α) (k : α → Prop) : Prop := match o with
  | some x => k x
  | none => False
def ab_vI (o : Option AV) (k : Int → Prop) : Prop := match o with
  | some (.inl x) => k x
  | _ => False
def ab_vA (o : Option AV) (k : Option Nat → Prop) : Prop := match o with
  | some (.inr (.inl x)) => k x
  | _ => False
def ab_vD (o : Option AV) (k : UInt64 → Prop) : Prop := match o with
  | some (.inr (.inr (.inr x))) => k x
  | _ => False
def ab_vL (o : Option AV) (k : Int → Prop) : Prop := match o with
  | some (.inr (.inr (.inl x))) => k x
  | _ => False
def ab_v2 (o : Option AV) (k : Int ⊕ UInt64 → Prop) : Prop := match o with
  | some (.inr (.inr x)) => k x
  | _ => False
def ab_c (c : ClassFile.Cond) (a b : Int) : Prop := match c with
  | .eq => a = b
  | .ne => ¬ a = b
  | .lt => a < b
  | .ge => b ≤ a
  | .gt => b < a
  | .le => a ≤ b
/-- what a field of a kind (0 int, 1 boolean, 2 long, 3 a reference) takes -/
def ab_fit (t : Nat) (v : AV) : Prop := match t, v with
  | 0, .inl _ => True
  | 1, .inl x => x = 0 ∨ x = 1
  | 2, .inr (.inr (.inl _)) => True
  | 3, .inr (.inl _) => True
  | _, _ => False
/-- the receiver is an object of this class -/
def ab_rv (as : List AV) (h : AH) (ci : Nat) : Prop := match as with
  | .inr (.inl (some a)) :: _ => ab_ob (h a) fun cj _ => cj = ci
  | _ => False
def ab_tsw (pc : Nat) (v : Int) (k : Nat → Prop) : Int → List Int → Prop
  | _, [] => True
  | lo, o :: l => (v = lo → ab_tg pc o k) ∧ ab_tsw pc v k (lo + 1) l
def ab_lsw (pc : Nat) (v : Int) (d : Int) (k : Nat → Prop) : List (Int × Int) → Prop
  | [] => ab_tg pc d k
  | (a, o) :: l => (v = a → ab_tg pc o k) ∧ (¬ v = a → ab_lsw pc v d k l)
def ab_at : ClassFile.ArrayType → Nat
  | .int => 0
  | .boolean => 1
  | .long => 2
  | _ => 9
def ab_lk {α : Type} : List (Nat × α) → Nat → Option α
  | [], _ => none
  | (j, v) :: l, i => if i = j then some v else ab_lk l i
theorem ab_lk_all {α : Type} {P : Nat → α → Prop} {l : List (Nat × α)} (h : ∀ e ∈ l, P e.1 e.2) : ∀ i q, ab_lk l i = some q → P i q := by
  induction l with
  | nil => intro i q hq; cases hq
  | cons a l ih =>
    intro i q hq
    obtain ⟨j, v⟩ := a
    simp only [ab_lk] at hq
    by_cases hi : i = j
    · rw [if_pos hi] at hq; cases hq; rw [hi]; exact h _ List.mem_cons_self
    · rw [if_neg hi] at hq; exact ih (fun e he => h e (List.mem_cons_of_mem _ he)) i q hq
theorem ab_all_c {α : Type} {P : Nat → α → Prop} {i : Nat} {v : α} {l : List (Nat × α)} (h1 : P i v) (h2 : ∀ e ∈ l, P e.1 e.2) : ∀ e ∈ (i, v) :: l, P e.1 e.2 := fun e he => (List.mem_cons.mp he).elim (fun q => by rw [q]; exact h1) (h2 e)
theorem ab_all_n {α : Type} {P : Nat → α → Prop} : ∀ e ∈ ([] : List (Nat × α)), P e.1 e.2 := fun _ h => absurd h List.not_mem_nil
/-- the tables of a class: fields read, fields written, classes made, constants, arrays of arrays made -/
abbrev ATb : Type := (Nat → Option (Nat × Nat)) × (Nat → Option (Nat × Nat × Nat)) × (Nat → Option (Nat × List AV)) × (Nat → Option AV) × (Nat → Option Nat)
/-- one instruction -/
def ab_s1 (tb : ATb) (ts : List Nat) (base : Nat) (ca : Nat → Option ACS) (rt : Nat) (MC MS : Nat) (K : Option AV → AH → Prop) (V : AVt) (ins : ClassFile.Instr) (len : Nat) : AVt := fun pc ls st h k z =>
  match ins with
  | .iconst n => len = 1 ∧ V (pc + 1) ls (.inl n :: st) h k z
  | .bipush n => len = 2 ∧ (-128 ≤ n ∧ n < 128) ∧ V (pc + 2) ls (.inl n :: st) h k z
  | .sipush n => len = 3 ∧ (-32768 ≤ n ∧ n < 32768) ∧ V (pc + 3) ls (.inl n :: st) h k z
  | .aconst_null => len = 1 ∧ V (pc + 1) ls (.inr (.inl none) :: st) h k z
  | .ldc i => len = 2 ∧ ab_vI (tb.2.2.2.1 i) fun v => V (pc + 2) ls (.inl v :: st) h k z
  | .ldc2_w i => len = 3 ∧ ab_v2 (tb.2.2.2.1 i) fun v => V (pc + 3) ls (.inr (.inr v) :: st) h k z
  | .iload i => len = 2 ∧ ab_vI (ab_g ls i) fun v => V (pc + 2) ls (.inl v :: st) h k z
  | .iload_n i => len = 1 ∧ ab_vI (ab_g ls (ab_f4 i)) fun v => V (pc + 1) ls (.inl v :: st) h k z
  | .aload i => len = 2 ∧ ab_vA (ab_g ls i) fun v => V (pc + 2) ls (.inr (.inl v) :: st) h k z
  | .aload_n i => len = 1 ∧ ab_vA (ab_g ls (ab_f4 i)) fun v => V (pc + 1) ls (.inr (.inl v) :: st) h k z
  | .istore i => len = 2 ∧ ab_I st fun v r => ab_so (ab_st ls i (.inl v)) fun ls' => V (pc + 2) ls' r h k z
  | .istore_n i => len = 1 ∧ ab_I st fun v r => ab_so (ab_st ls (ab_f4 i) (.inl v)) fun ls' => V (pc + 1) ls' r h k z
  | .astore i => len = 2 ∧ ab_A st fun v r => ab_so (ab_st ls i (.inr (.inl v))) fun ls' => V (pc + 2) ls' r h k z
  | .astore_n i => len = 1 ∧ ab_A st fun v r => ab_so (ab_st ls (ab_f4 i) (.inr (.inl v))) fun ls' => V (pc + 1) ls' r h k z
  | .iinc i n => len = 3 ∧ ab_vI (ab_g ls i) fun v => ab_so (ab_st ls i (.inl (v + n))) fun ls' => V (pc + 3) ls' st h k z
  | .iadd => len = 1 ∧ ab_II st fun a b r => V (pc + 1) ls (.inl (a + b) :: r) h k z
  | .isub => len = 1 ∧ ab_II st fun a b r => V (pc + 1) ls (.inl (a - b) :: r) h k z
  | .imul => len = 1 ∧ ab_II st fun a b r => V (pc + 1) ls (.inl (a * b) :: r) h k z
  | .idiv => len = 1 ∧ ab_II st fun a b r => (ab_in a ∧ ab_in b ∧ b ≠ 0) ∧ V (pc + 1) ls (.inl (Int.tdiv a b) :: r) h k z
  | .irem => len = 1 ∧ ab_II st fun a b r => (ab_in a ∧ ab_in b ∧ b ≠ 0) ∧ V (pc + 1) ls (.inl (Int.tmod a b) :: r) h k z
  | .iand => len = 1 ∧ ab_II st fun a b r => V (pc + 1) ls (.inl (Int32.ofInt a &&& Int32.ofInt b).toInt :: r) h k z
  | .ior => len = 1 ∧ ab_II st fun a b r => V (pc + 1) ls (.inl (Int32.ofInt a ||| Int32.ofInt b).toInt :: r) h k z
  | .ixor => len = 1 ∧ ab_II st fun a b r => V (pc + 1) ls (.inl (Int32.ofInt a ^^^ Int32.ofInt b).toInt :: r) h k z
  | .ishr => len = 1 ∧ ab_II st fun a b r => V (pc + 1) ls (.inl (Int32.ofInt a >>> (Int32.ofInt b &&& 31)).toInt :: r) h k z
  | .if_icmp c off => len = 3 ∧ 0 ≤ (pc : Int) + off ∧ ab_II st fun a b r => (ab_in a ∧ ab_in b) ∧ (ab_c c a b → V ((pc : Int) + off).toNat ls r h k z) ∧ (¬ ab_c c a b → V (pc + 3) ls r h k z)
  | .ifCond c off => len = 3 ∧ 0 ≤ (pc : Int) + off ∧ ab_I st fun a r => ab_in a ∧ (ab_c c a 0 → V ((pc : Int) + off).toNat ls r h k z) ∧ (¬ ab_c c a 0 → V (pc + 3) ls r h k z)
  | .ifnull off => len = 3 ∧ ab_A st fun a r => (a = none → ab_tg pc off fun t => V t ls r h k z) ∧ (¬ a = none → V (pc + 3) ls r h k z)
  | .ifnonnull off => len = 3 ∧ ab_A st fun a r => (¬ a = none → ab_tg pc off fun t => V t ls r h k z) ∧ (a = none → V (pc + 3) ls r h k z)
  | .goto off => len = 3 ∧ ab_tg pc off fun t => V t ls st h k z
  | .tableswitch d lo hi offs => (hi = lo + (offs.size : Int) - 1) ∧ ab_I st fun v r => ab_in v ∧ (v < lo ∨ hi < v → ab_tg pc d fun t => V t ls r h k z) ∧ ab_tsw pc v (fun t => V t ls r h k z) lo offs.toList
  | .lookupswitch d ps => (ps.toList.zip (ps.toList.drop 1)).all (fun (a, next) => a.1 < next.1) = true ∧ ab_I st fun v r => ab_in v ∧ ab_lsw pc v d (fun t => V t ls r h k z) ps.toList
  | .getfield i => len = 3 ∧ ab_so (tb.1 i) fun q => ab_Rf st fun a r => ab_ob (h a) fun cj fs => cj = q.1 ∧ ab_so fs[q.2]? fun v => V (pc + 3) ls (v :: r) h k z
  | .putfield i => len = 3 ∧ ab_so (tb.2.1 i) fun q => ab_VR st fun v a r => ab_ob (h a) fun cj fs => (cj = q.1 ∧ q.2.1 < fs.length ∧ ab_fit q.2.2 v) ∧ V (pc + 3) ls r (ab_up h a (.inl (q.1, fs.set q.2.1 v))) k z
  | .iaload => len = 1 ∧ ab_IR st fun i a r => ab_pr (h a) fun t n f => ((t = 0 ∨ t = 9) ∧ 0 ≤ i ∧ i < (n : Int) ∧ i ≤ 2147483647) ∧ V (pc + 1) ls (.inl (f i) :: r) h k z
  | .baload => len = 1 ∧ ab_IR st fun i a r => ab_pr (h a) fun t n f => (t = 1 ∧ 0 ≤ i ∧ i < (n : Int) ∧ i ≤ 2147483647) ∧ V (pc + 1) ls (.inl (f i) :: r) h k z
  | .aaload => len = 1 ∧ ab_IR st fun i a r => ab_qr (h a) fun _ n f => (0 ≤ i ∧ i < (n : Int) ∧ i ≤ 2147483647) ∧ V (pc + 1) ls (.inr (.inl (f i)) :: r) h k z
  | .iastore => len = 1 ∧ ab_VIR st fun v i a r => ab_pr (h a) fun t n f => (t = 0 ∧ 0 ≤ i ∧ i < (n : Int) ∧ i ≤ 2147483647) ∧ ab_vI (some v) fun x => V (pc + 1) ls r (ab_up h a (.inr (.inl (0, n, ab_uf f i x)))) k z
  | .bastore => len = 1 ∧ ab_VIR st fun v i a r => ab_pr (h a) fun t n f => (t = 1 ∧ 0 ≤ i ∧ i < (n : Int) ∧ i ≤ 2147483647) ∧ ab_vI (some v) fun x => (x = 0 ∨ x = 1) ∧ V (pc + 1) ls r (ab_up h a (.inr (.inl (1, n, ab_uf f i x)))) k z
  | .arraylength => len = 1 ∧ ab_Rf st fun a r => ab_ln (h a) fun n => V (pc + 1) ls (.inl (n : Int) :: r) h k z
  | .newarray t => len = 2 ∧ ab_I st fun n r => (ab_at t ∈ ts ∧ 0 ≤ n ∧ n ≤ 67108864 ∧ k + 1 ≤ MC ∧ z + n.toNat ≤ MS) ∧ ∀ a, h a = none → base ≤ a → V (pc + 2) ls (.inr (.inl (some a)) :: r) (ab_up h a (.inr (.inl (ab_at t, n.toNat, fun _ => 0)))) (k + 1) (z + n.toNat)
  | .new i => len = 3 ∧ ab_so (tb.2.2.1 i) fun q => (k + 1 ≤ MC ∧ z + q.2.length ≤ MS) ∧ ∀ a, h a = none → base ≤ a → V (pc + 3) ls (.inr (.inl (some a)) :: st) (ab_up h a (.inl (q.1, q.2))) (k + 1) (z + q.2.length)
  | .dup => len = 1 ∧ ab_1 st fun v r => V (pc + 1) ls (v :: v :: r) h k z
  | .dup2 => len = 1 ∧ ab_1 st fun v r => ab_1 r fun w q => V (pc + 1) ls (v :: w :: v :: w :: q) h k z
  | .pop => len = 1 ∧ ab_1 st fun _ r => V (pc + 1) ls r h k z
  | .invokevirtual i => len = 3 ∧ ab_so (ca i) fun q => (q.1 = 0 ∨ q.1 = 3) ∧ ab_so (ab_pop q.2.2.1 [] st) fun ar => (ab_sz ar.2 ≤ 8 ∧ k + q.2.2.2.1 ≤ MC ∧ z + q.2.2.2.2.1 ≤ MS ∧ (q.1 = 0 → ab_rv ar.1 h q.2.1)) ∧ q.2.2.2.2.2 ar.1 h fun rv h' => V (pc + 3) ls (ab_ret rv ar.2) h' (k + q.2.2.2.1) (z + q.2.2.2.2.1)
  | .invokespecial i => len = 3 ∧ ab_so (ca i) fun q => q.1 = 1 ∧ ab_so (ab_pop q.2.2.1 [] st) fun ar => (ab_sz ar.2 ≤ 8 ∧ k + q.2.2.2.1 ≤ MC ∧ z + q.2.2.2.2.1 ≤ MS) ∧ q.2.2.2.2.2 ar.1 h fun rv h' => V (pc + 3) ls (ab_ret rv ar.2) h' (k + q.2.2.2.1) (z + q.2.2.2.2.1)
  | .invokestatic i => len = 3 ∧ ab_so (ca i) fun q => q.1 = 2 ∧ ab_so (ab_pop q.2.2.1 [] st) fun ar => (ab_sz ar.2 ≤ 8 ∧ k + q.2.2.2.1 ≤ MC ∧ z + q.2.2.2.2.1 ≤ MS) ∧ q.2.2.2.2.2 ar.1 h fun rv h' => V (pc + 3) ls (ab_ret rv ar.2) h' (k + q.2.2.2.1) (z + q.2.2.2.2.1)
  | .ireturn => len = 1 ∧ ab_I st fun v r => (r = [] ∧ (rt = 1 ∨ rt = 2 ∧ (v = 0 ∨ v = 1))) ∧ K (some (.inl v)) h
  | .areturn => len = 1 ∧ ab_A st fun v r => (r = [] ∧ rt = 3) ∧ K (some (.inr (.inl v))) h
  | .dreturn => len = 1 ∧ ab_vD st.head? fun v => (st.tail = [] ∧ rt = 4) ∧ K (some (.inr (.inr (.inr v)))) h
  | .return_ => len = 1 ∧ (st = [] ∧ rt = 0) ∧ K none h
  | .i2d => len = 1 ∧ ab_I st fun v r => V (pc + 1) ls (.inr (.inr (.inr (FP.i2d (Int32.ofInt v)))) :: r) h k z
  | .ddiv => len = 1 ∧ ab_DD st fun a b r => vf_n64 (FP.ddiv a b) ∧ V (pc + 1) ls (.inr (.inr (.inr (FP.ddiv a b))) :: r) h k z
  | .dcmp op => len = 1 ∧ ab_DD st fun a b r => V (pc + 1) ls (.inl (Op.cmpValue (FP.dcmp a b) op).toInt :: r) h k z
  | .lload i => len = 2 ∧ ab_vL (ab_g ls i) fun v => V (pc + 2) ls (.inr (.inr (.inl v)) :: st) h k z
  | .lload_n i => len = 1 ∧ ab_vL (ab_g ls (ab_f4 i)) fun v => V (pc + 1) ls (.inr (.inr (.inl v)) :: st) h k z
  | .lstore i => len = 2 ∧ ab_vL st.head? fun v => ab_so (ab_st ls i (.inr (.inr (.inl v)))) fun l1 => ab_so (ab_cl l1 (i + 1)) fun ls' => V (pc + 2) ls' st.tail h k z
  | .lstore_n i => len = 1 ∧ ab_vL st.head? fun v => ab_so (ab_st ls (ab_f4 i) (.inr (.inr (.inl v)))) fun l1 => ab_so (ab_cl l1 (ab_f4 i + 1)) fun ls' => V (pc + 1) ls' st.tail h k z
  | .dload i => len = 2 ∧ ab_vD (ab_g ls i) fun v => V (pc + 2) ls (.inr (.inr (.inr v)) :: st) h k z
  | .dload_n i => len = 1 ∧ ab_vD (ab_g ls (ab_f4 i)) fun v => V (pc + 1) ls (.inr (.inr (.inr v)) :: st) h k z
  | .dstore i => len = 2 ∧ ab_vD st.head? fun v => ab_so (ab_st ls i (.inr (.inr (.inr v)))) fun l1 => ab_so (ab_cl l1 (i + 1)) fun ls' => V (pc + 2) ls' st.tail h k z
  | .dstore_n i => len = 1 ∧ ab_vD st.head? fun v => ab_so (ab_st ls (ab_f4 i) (.inr (.inr (.inr v)))) fun l1 => ab_so (ab_cl l1 (ab_f4 i + 1)) fun ls' => V (pc + 1) ls' st.tail h k z
  | .ladd => len = 1 ∧ ab_LL st fun a b r => V (pc + 1) ls (.inr (.inr (.inl (a + b))) :: r) h k z
  | .lmul => len = 1 ∧ ab_LL st fun a b r => V (pc + 1) ls (.inr (.inr (.inl (a * b))) :: r) h k z
  | .i2l => len = 1 ∧ ab_I st fun v r => ab_in v ∧ V (pc + 1) ls (.inr (.inr (.inl v)) :: r) h k z
  | .lcmp => len = 1 ∧ ab_LL st fun a b r => (a = b → V (pc + 1) ls (.inl 0 :: r) h k z) ∧ (¬ a = b → (ab_in a ∧ ab_in b) ∧ V (pc + 1) ls (.inl (if b < a then 1 else -1) :: r) h k z)
  | .lreturn => len = 1 ∧ ab_vL st.head? fun v => (st.tail = [] ∧ rt = 5) ∧ K (some (.inr (.inr (.inl v)))) h
  | .laload => len = 1 ∧ ab_IR st fun i a r => ab_pr (h a) fun t n f => (t = 2 ∧ 0 ≤ i ∧ i < (n : Int) ∧ i ≤ 2147483647) ∧ V (pc + 1) ls (.inr (.inr (.inl (f i))) :: r) h k z
  | .lastore => len = 1 ∧ ab_VIR st fun v i a r => ab_pr (h a) fun t n f => (t = 2 ∧ 0 ≤ i ∧ i < (n : Int) ∧ i ≤ 2147483647) ∧ ab_vL (some v) fun x => V (pc + 1) ls r (ab_up h a (.inr (.inl (2, n, ab_uf f i x)))) k z
  | .anewarray i => len = 3 ∧ ab_so (tb.2.2.2.2 i) fun q9 => q9 = 0 ∧ ab_I st fun n r => (3 ∈ ts ∧ 0 ≤ n ∧ n ≤ 67108864 ∧ k + 1 ≤ MC ∧ z + n.toNat ≤ MS) ∧ ∀ a, h a = none → base ≤ a → V (pc + 3) ls (.inr (.inl (some a)) :: r) (ab_up h a (.inr (.inr (3, n.toNat, fun _ => none)))) (k + 1) (z + n.toNat)
  | .aastore => len = 1 ∧ ab_VIR st fun v i a r => ab_qr (h a) fun _ n f => (0 ≤ i ∧ i < (n : Int) ∧ i ≤ 2147483647) ∧ ab_Rf [v] fun q _ => ab_pr (h q) fun t _ _ => t = 0 ∧ V (pc + 1) ls r (ab_up h a (.inr (.inr (3, n, ab_uf f i (some q))))) k z
  | .checkcast i => len = 3 ∧ ab_so (tb.2.2.2.2 i) fun q9 => q9 = 0 ∧ ab_Rf st fun a r => ab_pr (h a) fun t _ _ => t = 0 ∧ V (pc + 3) ls (.inr (.inl (some a)) :: r) h k z
  | .multianewarray i d => len = 4 ∧ d = 2 ∧ ab_so (tb.2.2.2.2 i) fun q9 => q9 = 1 ∧ ab_II st fun n m r => ((3 ∈ ts ∧ 0 ∈ ts) ∧ (0 ≤ n ∧ n ≤ 1000 ∧ 0 ≤ m ∧ m ≤ 1000) ∧ k + (1 + n.toNat) ≤ MC ∧ z + (n.toNat + n.toNat * m.toNat) ≤ MS) ∧ ∀ a, (∀ b, a ≤ b → h b = none) → base ≤ a → V (pc + 4) ls (.inr (.inl (some a)) :: r) (ab_grid h a n.toNat m.toNat) (k + (1 + n.toNat)) (z + (n.toNat + n.toNat * m.toNat))
  | _ => False
/-- one step of a text -/
def ab_step (tb : ATb) (ts : List Nat) (base : Nat) (cc : ByteArray) (ca : Nat → Option ACS) (rt : Nat) (MC MS : Nat) (K : Option AV → AH → Prop) (V : AVt) : AVt := fun pc ls st h k z =>
  match decode cc pc with
  | .ok (ins, len) => ab_s1 tb ts base ca rt MC MS K V ins len pc ls st h k z
  | .error _ => False
/-- up to n steps, but for places where it stops -/
def ab_wp (step : AVt → AVt) (stop : Nat → Bool) (V : AVt) : Nat → AVt
  | 0 => V
  | n + 1 => fun pc ls st h k z => if stop pc = true then V pc ls st h k z else step (ab_wp step stop V n) pc ls st h k z
theorem ab_wp0 (step : AVt → AVt) (stop : Nat → Bool) (V : AVt) (pc : Nat) (ls : ALs) (st : List AV) (h : AH) (k z : Nat) : ab_wp step stop V 0 pc ls st h k z = V pc ls st h k z := rfl
theorem ab_wps (step : AVt → AVt) (stop : Nat → Bool) (V : AVt) (n pc : Nat) (ls : ALs) (st : List AV) (h : AH) (k z : Nat) : ab_wp step stop V (n + 1) pc ls st h k z = if stop pc = true then V pc ls st h k z else step (ab_wp step stop V n) pc ls st h k z := rfl
theorem ab_stp (tb : ATb) (ts : List Nat) (base : Nat) (cc : ByteArray) (ca : Nat → Option ACS) (rt : Nat) (MC MS : Nat) (K : Option AV → AH → Prop) (V : AVt) (pc : Nat) (ls : ALs) (st : List AV) (h : AH) (k z : Nat) :
    ab_step tb ts base cc ca rt MC MS K V pc ls st h k z = match decode cc pc with
      | .ok (ins, len) => ab_s1 tb ts base ca rt MC MS K V ins len pc ls st h k z
      | .error _ => False := rfl
theorem ab_f0 : ab_f4 0 = 0 := rfl
theorem ab_f1 : ab_f4 1 = 1 := rfl
theorem ab_f2 : ab_f4 2 = 2 := rfl
theorem ab_f3 : ab_f4 3 = 3 := rfl
theorem ab_up_eq (h : AH) (a : Nat) (c : AC) : ab_up h a c a = some c := by simp [ab_up]
theorem ae_iconst (tb : ATb) (ts : List Nat) (base : Nat) (ca : Nat → Option ACS) (rt : Nat) (MC MS : Nat) (K : Option AV → AH → Prop) (V : AVt) (n : Int) (len pc : Nat) (ls : ALs) (st : List AV) (h : AH) (k z : Nat) : ab_s1 tb ts base ca rt MC MS K V (.iconst n) len pc ls st h k z = (len = 1 ∧ V (pc + 1) ls (.inl n :: st) h k z) := rfl
theorem ae_bipush (tb : ATb) (ts : List Nat) (base : Nat) (ca : Nat → Option ACS) (rt : Nat) (MC MS : Nat) (K : Option AV → AH → Prop) (V : AVt) (n : Int) (len pc : Nat) (ls : ALs) (st : List AV) (h : AH) (k z : Nat) : ab_s1 tb ts base ca rt MC MS K V (.bipush n) len pc ls st h k z = (len = 2 ∧ (-128 ≤ n ∧ n < 128) ∧ V (pc + 2) ls (.inl n :: st) h k z) := rfl
theorem ae_sipush (tb : ATb) (ts : List Nat) (base : Nat) (ca : Nat → Option ACS) (rt : Nat) (MC MS : Nat) (K : Option AV → AH → Prop) (V : AVt) (n : Int) (len pc : Nat) (ls : ALs) (st : List AV) (h : AH) (k z : Nat) : ab_s1 tb ts base ca rt MC MS K V (.sipush n) len pc ls st h k z = (len = 3 ∧ (-32768 ≤ n ∧ n < 32768) ∧ V (pc + 3) ls (.inl n :: st) h k z) := rfl
theorem ae_aconst_null (tb : ATb) (ts : List Nat) (base : Nat) (ca : Nat → Option ACS) (rt : Nat) (MC MS : Nat) (K : Option AV → AH → Prop) (V : AVt)  (len pc : Nat) (ls : ALs) (st : List AV) (h : AH) (k z : Nat) : ab_s1 tb ts base ca rt MC MS K V .aconst_null len pc ls st h k z = (len = 1 ∧ V (pc + 1) ls (.inr (.inl none) :: st) h k z) := rfl
theorem ae_ldc (tb : ATb) (ts : List Nat) (base : Nat) (ca : Nat → Option ACS) (rt : Nat) (MC MS : Nat) (K : Option AV → AH → Prop) (V : AVt) (i : Nat) (len pc : Nat) (ls : ALs) (st : List AV) (h : AH) (k z : Nat) : ab_s1 tb ts base ca rt MC MS K V (.ldc i) len pc ls st h k z = (len = 2 ∧ ab_vI (tb.2.2.2.1 i) fun v => V (pc + 2) ls (.inl v :: st) h k z) := rfl
theorem ae_ldc2_w (tb : ATb) (ts : List Nat) (base : Nat) (ca : Nat → Option ACS) (rt : Nat) (MC MS : Nat) (K : Option AV → AH → Prop) (V : AVt) (i : Nat) (len pc : Nat) (ls : ALs) (st : List AV) (h : AH) (k z : Nat) : ab_s1 tb ts base ca rt MC MS K V (.ldc2_w i) len pc ls st h k z = (len = 3 ∧ ab_v2 (tb.2.2.2.1 i) fun v => V (pc + 3) ls (.inr (.inr v) :: st) h k z) := rfl
theorem ae_iload (tb : ATb) (ts : List Nat) (base : Nat) (ca : Nat → Option ACS) (rt : Nat) (MC MS : Nat) (K : Option AV → AH → Prop) (V : AVt) (i : Nat) (len pc : Nat) (ls : ALs) (st : List AV) (h : AH) (k z : Nat) : ab_s1 tb ts base ca rt MC MS K V (.iload i) len pc ls st h k z = (len = 2 ∧ ab_vI (ab_g ls i) fun v => V (pc + 2) ls (.inl v :: st) h k z) := rfl
theorem ae_iload_n (tb : ATb) (ts : List Nat) (base : Nat) (ca : Nat → Option ACS) (rt : Nat) (MC MS : Nat) (K : Option AV → AH → Prop) (V : AVt) (i : Fin 4) (len pc : Nat) (ls : ALs) (st : List AV) (h : AH) (k z : Nat) : ab_s1 tb ts base ca rt MC MS K V (.iload_n i) len pc ls st h k z = (len = 1 ∧ ab_vI (ab_g ls (ab_f4 i)) fun v => V (pc + 1) ls (.inl v :: st) h k z) := rfl
theorem ae_aload (tb : ATb) (ts : List Nat) (base : Nat) (ca : Nat → Option ACS) (rt : Nat) (MC MS : Nat) (K : Option AV → AH → Prop) (V : AVt) (i : Nat) (len pc : Nat) (ls : ALs) (st : List AV) (h : AH) (k z : Nat) : ab_s1 tb ts base ca rt MC MS K V (.aload i) len pc ls st h k z = (len = 2 ∧ ab_vA (ab_g ls i) fun v => V (pc + 2) ls (.inr (.inl v) :: st) h k z) := rfl
theorem ae_aload_n (tb : ATb) (ts : List Nat) (base : Nat) (ca : Nat → Option ACS) (rt : Nat) (MC MS : Nat) (K : Option AV → AH → Prop) (V : AVt) (i : Fin 4) (len pc : Nat) (ls : ALs) (st : List AV) (h : AH) (k z : Nat) : ab_s1 tb ts base ca rt MC MS K V (.aload_n i) len pc ls st h k z = (len = 1 ∧ ab_vA (ab_g ls (ab_f4 i)) fun v => V (pc + 1) ls (.inr (.inl v) :: st) h k z) := rfl
theorem ae_istore (tb : ATb) (ts : List Nat) (base : Nat) (ca : Nat → Option ACS) (rt : Nat) (MC MS : Nat) (K : Option AV → AH → Prop) (V : AVt) (i : Nat) (len pc : Nat) (ls : ALs) (st : List AV) (h : AH) (k z : Nat) : ab_s1 tb ts base ca rt MC MS K V (.istore i) len pc ls st h k z = (len = 2 ∧ ab_I st fun v r => ab_so (ab_st ls i (.inl v)) fun ls' => V (pc + 2) ls' r h k z) := rfl
theorem ae_istore_n (tb : ATb) (ts : List Nat) (base : Nat) (ca : Nat → Option ACS) (rt : Nat) (MC MS : Nat) (K : Option AV → AH → Prop) (V : AVt) (i : Fin 4) (len pc : Nat) (ls : ALs) (st : List AV) (h : AH) (k z : Nat) : ab_s1 tb ts base ca rt MC MS K V (.istore_n i) len pc ls st h k z = (len = 1 ∧ ab_I st fun v r => ab_so (ab_st ls (ab_f4 i) (.inl v)) fun ls' => V (pc + 1) ls' r h k z) := rfl
theorem ae_astore (tb : ATb) (ts : List Nat) (base : Nat) (ca : Nat → Option ACS) (rt : Nat) (MC MS : Nat) (K : Option AV → AH → Prop) (V : AVt) (i : Nat) (len pc : Nat) (ls : ALs) (st : List AV) (h : AH) (k z : Nat) : ab_s1 tb ts base ca rt MC MS K V (.astore i) len pc ls st h k z = (len = 2 ∧ ab_A st fun v r => ab_so (ab_st ls i (.inr (.inl v))) fun ls' => V (pc + 2) ls' r h k z) := rfl
theorem ae_astore_n (tb : ATb) (ts : List Nat) (base : Nat) (ca : Nat → Option ACS) (rt : Nat) (MC MS : Nat) (K : Option AV → AH → Prop) (V : AVt) (i : Fin 4) (len pc : Nat) (ls : ALs) (st : List AV) (h : AH) (k z : Nat) : ab_s1 tb ts base ca rt MC MS K V (.astore_n i) len pc ls st h k z = (len = 1 ∧ ab_A st fun v r => ab_so (ab_st ls (ab_f4 i) (.inr (.inl v))) fun ls' => V (pc + 1) ls' r h k z) := rfl
theorem ae_iinc (tb : ATb) (ts : List Nat) (base : Nat) (ca : Nat → Option ACS) (rt : Nat) (MC MS : Nat) (K : Option AV → AH → Prop) (V : AVt) (i : Nat) (n : Int) (len pc : Nat) (ls : ALs) (st : List AV) (h : AH) (k z : Nat) : ab_s1 tb ts base ca rt MC MS K V (.iinc i n) len pc ls st h k z = (len = 3 ∧ ab_vI (ab_g ls i) fun v => ab_so (ab_st ls i (.inl (v + n))) fun ls' => V (pc + 3) ls' st h k z) := rfl
theorem ae_iadd (tb : ATb) (ts : List Nat) (base : Nat) (ca : Nat → Option ACS) (rt : Nat) (MC MS : Nat) (K : Option AV → AH → Prop) (V : AVt)  (len pc : Nat) (ls : ALs) (st : List AV) (h : AH) (k z : Nat) : ab_s1 tb ts base ca rt MC MS K V .iadd len pc ls st h k z = (len = 1 ∧ ab_II st fun a b r => V (pc + 1) ls (.inl (a + b) :: r) h k z) := rfl
theorem ae_isub (tb : ATb) (ts : List Nat) (base : Nat) (ca : Nat → Option ACS) (rt : Nat) (MC MS : Nat) (K : Option AV → AH → Prop) (V : AVt)  (len pc : Nat) (ls : ALs) (st : List AV) (h : AH) (k z : Nat) : ab_s1 tb ts base ca rt MC MS K V .isub len pc ls st h k z = (len = 1 ∧ ab_II st fun a b r => V (pc + 1) ls (.inl (a - b) :: r) h k z) := rfl
theorem ae_imul (tb : ATb) (ts : List Nat) (base : Nat) (ca : Nat → Option ACS) (rt : Nat) (MC MS : Nat) (K : Option AV → AH → Prop) (V : AVt)  (len pc : Nat) (ls : ALs) (st : List AV) (h : AH) (k z : Nat) : ab_s1 tb ts base ca rt MC MS K V .imul len pc ls st h k z = (len = 1 ∧ ab_II st fun a b r => V (pc + 1) ls (.inl (a * b) :: r) h k z) := rfl
theorem ae_idiv (tb : ATb) (ts : List Nat) (base : Nat) (ca : Nat → Option ACS) (rt : Nat) (MC MS : Nat) (K : Option AV → AH → Prop) (V : AVt)  (len pc : Nat) (ls : ALs) (st : List AV) (h : AH) (k z : Nat) : ab_s1 tb ts base ca rt MC MS K V .idiv len pc ls st h k z = (len = 1 ∧ ab_II st fun a b r => (ab_in a ∧ ab_in b ∧ b ≠ 0) ∧ V (pc + 1) ls (.inl (Int.tdiv a b) :: r) h k z) := rfl
theorem ae_irem (tb : ATb) (ts : List Nat) (base : Nat) (ca : Nat → Option ACS) (rt : Nat) (MC MS : Nat) (K : Option AV → AH → Prop) (V : AVt)  (len pc : Nat) (ls : ALs) (st : List AV) (h : AH) (k z : Nat) : ab_s1 tb ts base ca rt MC MS K V .irem len pc ls st h k z = (len = 1 ∧ ab_II st fun a b r => (ab_in a ∧ ab_in b ∧ b ≠ 0) ∧ V (pc + 1) ls (.inl (Int.tmod a b) :: r) h k z) := rfl
theorem ae_iand (tb : ATb) (ts : List Nat) (base : Nat) (ca : Nat → Option ACS) (rt : Nat) (MC MS : Nat) (K : Option AV → AH → Prop) (V : AVt)  (len pc : Nat) (ls : ALs) (st : List AV) (h : AH) (k z : Nat) : ab_s1 tb ts base ca rt MC MS K V .iand len pc ls st h k z = (len = 1 ∧ ab_II st fun a b r => V (pc + 1) ls (.inl (Int32.ofInt a &&& Int32.ofInt b).toInt :: r) h k z) := rfl
theorem ae_ior (tb : ATb) (ts : List Nat) (base : Nat) (ca : Nat → Option ACS) (rt : Nat) (MC MS : Nat) (K : Option AV → AH → Prop) (V : AVt)  (len pc : Nat) (ls : ALs) (st : List AV) (h : AH) (k z : Nat) : ab_s1 tb ts base ca rt MC MS K V .ior len pc ls st h k z = (len = 1 ∧ ab_II st fun a b r => V (pc + 1) ls (.inl (Int32.ofInt a ||| Int32.ofInt b).toInt :: r) h k z) := rfl
theorem ae_ixor (tb : ATb) (ts : List Nat) (base : Nat) (ca : Nat → Option ACS) (rt : Nat) (MC MS : Nat) (K : Option AV → AH → Prop) (V : AVt)  (len pc : Nat) (ls : ALs) (st : List AV) (h : AH) (k z : Nat) : ab_s1 tb ts base ca rt MC MS K V .ixor len pc ls st h k z = (len = 1 ∧ ab_II st fun a b r => V (pc + 1) ls (.inl (Int32.ofInt a ^^^ Int32.ofInt b).toInt :: r) h k z) := rfl
theorem ae_ishr (tb : ATb) (ts : List Nat) (base : Nat) (ca : Nat → Option ACS) (rt : Nat) (MC MS : Nat) (K : Option AV → AH → Prop) (V : AVt)  (len pc : Nat) (ls : ALs) (st : List AV) (h : AH) (k z : Nat) : ab_s1 tb ts base ca rt MC MS K V .ishr len pc ls st h k z = (len = 1 ∧ ab_II st fun a b r => V (pc + 1) ls (.inl (Int32.ofInt a >>> (Int32.ofInt b &&& 31)).toInt :: r) h k z) := rfl
theorem ae_if_icmp (tb : ATb) (ts : List Nat) (base : Nat) (ca : Nat → Option ACS) (rt : Nat) (MC MS : Nat) (K : Option AV → AH → Prop) (V : AVt) (c : ClassFile.Cond) (off : Int) (len pc : Nat) (ls : ALs) (st : List AV) (h : AH) (k z : Nat) : ab_s1 tb ts base ca rt MC MS K V (.if_icmp c off) len pc ls st h k z = (len = 3 ∧ 0 ≤ (pc : Int) + off ∧ ab_II st fun a b r => (ab_in a ∧ ab_in b) ∧ (ab_c c a b → V ((pc : Int) + off).toNat ls r h k z) ∧ (¬ ab_c c a b → V (pc + 3) ls r h k z)) := rfl
theorem ae_ifCond (tb : ATb) (ts : List Nat) (base : Nat) (ca : Nat → Option ACS) (rt : Nat) (MC MS : Nat) (K : Option AV → AH → Prop) (V : AVt) (c : ClassFile.Cond) (off : Int) (len pc : Nat) (ls : ALs) (st : List AV) (h : AH) (k z : Nat) : ab_s1 tb ts base ca rt MC MS K V (.ifCond c off) len pc ls st h k z = (len = 3 ∧ 0 ≤ (pc : Int) + off ∧ ab_I st fun a r => ab_in a ∧ (ab_c c a 0 → V ((pc : Int) + off).toNat ls r h k z) ∧ (¬ ab_c c a 0 → V (pc + 3) ls r h k z)) := rfl
theorem ae_ifnull (tb : ATb) (ts : List Nat) (base : Nat) (ca : Nat → Option ACS) (rt : Nat) (MC MS : Nat) (K : Option AV → AH → Prop) (V : AVt) (off : Int) (len pc : Nat) (ls : ALs) (st : List AV) (h : AH) (k z : Nat) : ab_s1 tb ts base ca rt MC MS K V (.ifnull off) len pc ls st h k z = (len = 3 ∧ ab_A st fun a r => (a = none → ab_tg pc off fun t => V t ls r h k z) ∧ (¬ a = none → V (pc + 3) ls r h k z)) := rfl
theorem ae_ifnonnull (tb : ATb) (ts : List Nat) (base : Nat) (ca : Nat → Option ACS) (rt : Nat) (MC MS : Nat) (K : Option AV → AH → Prop) (V : AVt) (off : Int) (len pc : Nat) (ls : ALs) (st : List AV) (h : AH) (k z : Nat) : ab_s1 tb ts base ca rt MC MS K V (.ifnonnull off) len pc ls st h k z = (len = 3 ∧ ab_A st fun a r => (¬ a = none → ab_tg pc off fun t => V t ls r h k z) ∧ (a = none → V (pc + 3) ls r h k z)) := rfl
theorem ae_goto (tb : ATb) (ts : List Nat) (base : Nat) (ca : Nat → Option ACS) (rt : Nat) (MC MS : Nat) (K : Option AV → AH → Prop) (V : AVt) (off : Int) (len pc : Nat) (ls : ALs) (st : List AV) (h : AH) (k z : Nat) : ab_s1 tb ts base ca rt MC MS K V (.goto off) len pc ls st h k z = (len = 3 ∧ ab_tg pc off fun t => V t ls st h k z) := rfl
theorem ae_tableswitch (tb : ATb) (ts : List Nat) (base : Nat) (ca : Nat → Option ACS) (rt : Nat) (MC MS : Nat) (K : Option AV → AH → Prop) (V : AVt) (d lo hi : Int) (offs : Array Int) (len pc : Nat) (ls : ALs) (st : List AV) (h : AH) (k z : Nat) : ab_s1 tb ts base ca rt MC MS K V (.tableswitch d lo hi offs) len pc ls st h k z = ((hi = lo + (offs.size : Int) - 1) ∧ ab_I st fun v r => ab_in v ∧ (v < lo ∨ hi < v → ab_tg pc d fun t => V t ls r h k z) ∧ ab_tsw pc v (fun t => V t ls r h k z) lo offs.toList) := rfl
theorem ae_lookupswitch (tb : ATb) (ts : List Nat) (base : Nat) (ca : Nat → Option ACS) (rt : Nat) (MC MS : Nat) (K : Option AV → AH → Prop) (V : AVt) (d : Int) (ps : Array (Int × Int)) (len pc : Nat) (ls : ALs) (st : List AV) (h : AH) (k z : Nat) : ab_s1 tb ts base ca rt MC MS K V (.lookupswitch d ps) len pc ls st h k z = ((ps.toList.zip (ps.toList.drop 1)).all (fun (a, next) => a.1 < next.1) = true ∧ ab_I st fun v r => ab_in v ∧ ab_lsw pc v d (fun t => V t ls r h k z) ps.toList) := rfl
theorem ae_getfield (tb : ATb) (ts : List Nat) (base : Nat) (ca : Nat → Option ACS) (rt : Nat) (MC MS : Nat) (K : Option AV → AH → Prop) (V : AVt) (i : Nat) (len pc : Nat) (ls : ALs) (st : List AV) (h : AH) (k z : Nat) : ab_s1 tb ts base ca rt MC MS K V (.getfield i) len pc ls st h k z = (len = 3 ∧ ab_so (tb.1 i) fun q => ab_Rf st fun a r => ab_ob (h a) fun cj fs => cj = q.1 ∧ ab_so fs[q.2]? fun v => V (pc + 3) ls (v :: r) h k z) := rfl
theorem ae_putfield (tb : ATb) (ts : List Nat) (base : Nat) (ca : Nat → Option ACS) (rt : Nat) (MC MS : Nat) (K : Option AV → AH → Prop) (V : AVt) (i : Nat) (len pc : Nat) (ls : ALs) (st : List AV) (h : AH) (k z : Nat) : ab_s1 tb ts base ca rt MC MS K V (.putfield i) len pc ls st h k z = (len = 3 ∧ ab_so (tb.2.1 i) fun q => ab_VR st fun v a r => ab_ob (h a) fun cj fs => (cj = q.1 ∧ q.2.1 < fs.length ∧ ab_fit q.2.2 v) ∧ V (pc + 3) ls r (ab_up h a (.inl (q.1, fs.set q.2.1 v))) k z) := rfl
theorem ae_iaload (tb : ATb) (ts : List Nat) (base : Nat) (ca : Nat → Option ACS) (rt : Nat) (MC MS : Nat) (K : Option AV → AH → Prop) (V : AVt)  (len pc : Nat) (ls : ALs) (st : List AV) (h : AH) (k z : Nat) : ab_s1 tb ts base ca rt MC MS K V .iaload len pc ls st h k z = (len = 1 ∧ ab_IR st fun i a r => ab_pr (h a) fun t n f => ((t = 0 ∨ t = 9) ∧ 0 ≤ i ∧ i < (n : Int) ∧ i ≤ 2147483647) ∧ V (pc + 1) ls (.inl (f i) :: r) h k z) := rfl
theorem ae_baload (tb : ATb) (ts : List Nat) (base : Nat) (ca : Nat → Option ACS) (rt : Nat) (MC MS : Nat) (K : Option AV → AH → Prop) (V : AVt)  (len pc : Nat) (ls : ALs) (st : List AV) (h : AH) (k z : Nat) : ab_s1 tb ts base ca rt MC MS K V .baload len pc ls st h k z = (len = 1 ∧ ab_IR st fun i a r => ab_pr (h a) fun t n f => (t = 1 ∧ 0 ≤ i ∧ i < (n : Int) ∧ i ≤ 2147483647) ∧ V (pc + 1) ls (.inl (f i) :: r) h k z) := rfl
theorem ae_aaload (tb : ATb) (ts : List Nat) (base : Nat) (ca : Nat → Option ACS) (rt : Nat) (MC MS : Nat) (K : Option AV → AH → Prop) (V : AVt)  (len pc : Nat) (ls : ALs) (st : List AV) (h : AH) (k z : Nat) : ab_s1 tb ts base ca rt MC MS K V .aaload len pc ls st h k z = (len = 1 ∧ ab_IR st fun i a r => ab_qr (h a) fun _ n f => (0 ≤ i ∧ i < (n : Int) ∧ i ≤ 2147483647) ∧ V (pc + 1) ls (.inr (.inl (f i)) :: r) h k z) := rfl
theorem ae_iastore (tb : ATb) (ts : List Nat) (base : Nat) (ca : Nat → Option ACS) (rt : Nat) (MC MS : Nat) (K : Option AV → AH → Prop) (V : AVt)  (len pc : Nat) (ls : ALs) (st : List AV) (h : AH) (k z : Nat) : ab_s1 tb ts base ca rt MC MS K V .iastore len pc ls st h k z = (len = 1 ∧ ab_VIR st fun v i a r => ab_pr (h a) fun t n f => (t = 0 ∧ 0 ≤ i ∧ i < (n : Int) ∧ i ≤ 2147483647) ∧ ab_vI (some v) fun x => V (pc + 1) ls r (ab_up h a (.inr (.inl (0, n, ab_uf f i x)))) k z) := rfl
theorem ae_bastore (tb : ATb) (ts : List Nat) (base : Nat) (ca : Nat → Option ACS) (rt : Nat) (MC MS : Nat) (K : Option AV → AH → Prop) (V : AVt)  (len pc : Nat) (ls : ALs) (st : List AV) (h : AH) (k z : Nat) : ab_s1 tb ts base ca rt MC MS K V .bastore len pc ls st h k z = (len = 1 ∧ ab_VIR st fun v i a r => ab_pr (h a) fun t n f => (t = 1 ∧ 0 ≤ i ∧ i < (n : Int) ∧ i ≤ 2147483647) ∧ ab_vI (some v) fun x => (x = 0 ∨ x = 1) ∧ V (pc + 1) ls r (ab_up h a (.inr (.inl (1, n, ab_uf f i x)))) k z) := rfl
theorem ae_arraylength (tb : ATb) (ts : List Nat) (base : Nat) (ca : Nat → Option ACS) (rt : Nat) (MC MS : Nat) (K : Option AV → AH → Prop) (V : AVt)  (len pc : Nat) (ls : ALs) (st : List AV) (h : AH) (k z : Nat) : ab_s1 tb ts base ca rt MC MS K V .arraylength len pc ls st h k z = (len = 1 ∧ ab_Rf st fun a r => ab_ln (h a) fun n => V (pc + 1) ls (.inl (n : Int) :: r) h k z) := rfl
theorem ae_newarray (tb : ATb) (ts : List Nat) (base : Nat) (ca : Nat → Option ACS) (rt : Nat) (MC MS : Nat) (K : Option AV → AH → Prop) (V : AVt) (t : ClassFile.ArrayType) (len pc : Nat) (ls : ALs) (st : List AV) (h : AH) (k z : Nat) : ab_s1 tb ts base ca rt MC MS K V (.newarray t) len pc ls st h k z = (len = 2 ∧ ab_I st fun n r => (ab_at t ∈ ts ∧ 0 ≤ n ∧ n ≤ 67108864 ∧ k + 1 ≤ MC ∧ z + n.toNat ≤ MS) ∧ ∀ a, h a = none → base ≤ a → V (pc + 2) ls (.inr (.inl (some a)) :: r) (ab_up h a (.inr (.inl (ab_at t, n.toNat, fun _ => 0)))) (k + 1) (z + n.toNat)) := rfl
theorem ae_new (tb : ATb) (ts : List Nat) (base : Nat) (ca : Nat → Option ACS) (rt : Nat) (MC MS : Nat) (K : Option AV → AH → Prop) (V : AVt) (i : Nat) (len pc : Nat) (ls : ALs) (st : List AV) (h : AH) (k z : Nat) : ab_s1 tb ts base ca rt MC MS K V (.new i) len pc ls st h k z = (len = 3 ∧ ab_so (tb.2.2.1 i) fun q => (k + 1 ≤ MC ∧ z + q.2.length ≤ MS) ∧ ∀ a, h a = none → base ≤ a → V (pc + 3) ls (.inr (.inl (some a)) :: st) (ab_up h a (.inl (q.1, q.2))) (k + 1) (z + q.2.length)) := rfl
theorem ae_dup (tb : ATb) (ts : List Nat) (base : Nat) (ca : Nat → Option ACS) (rt : Nat) (MC MS : Nat) (K : Option AV → AH → Prop) (V : AVt)  (len pc : Nat) (ls : ALs) (st : List AV) (h : AH) (k z : Nat) : ab_s1 tb ts base ca rt MC MS K V .dup len pc ls st h k z = (len = 1 ∧ ab_1 st fun v r => V (pc + 1) ls (v :: v :: r) h k z) := rfl
theorem ae_dup2 (tb : ATb) (ts : List Nat) (base : Nat) (ca : Nat → Option ACS) (rt : Nat) (MC MS : Nat) (K : Option AV → AH → Prop) (V : AVt)  (len pc : Nat) (ls : ALs) (st : List AV) (h : AH) (k z : Nat) : ab_s1 tb ts base ca rt MC MS K V .dup2 len pc ls st h k z = (len = 1 ∧ ab_1 st fun v r => ab_1 r fun w q => V (pc + 1) ls (v :: w :: v :: w :: q) h k z) := rfl
theorem ae_pop (tb : ATb) (ts : List Nat) (base : Nat) (ca : Nat → Option ACS) (rt : Nat) (MC MS : Nat) (K : Option AV → AH → Prop) (V : AVt)  (len pc : Nat) (ls : ALs) (st : List AV) (h : AH) (k z : Nat) : ab_s1 tb ts base ca rt MC MS K V .pop len pc ls st h k z = (len = 1 ∧ ab_1 st fun _ r => V (pc + 1) ls r h k z) := rfl
theorem ae_invokevirtual (tb : ATb) (ts : List Nat) (base : Nat) (ca : Nat → Option ACS) (rt : Nat) (MC MS : Nat) (K : Option AV → AH → Prop) (V : AVt) (i : Nat) (len pc : Nat) (ls : ALs) (st : List AV) (h : AH) (k z : Nat) : ab_s1 tb ts base ca rt MC MS K V (.invokevirtual i) len pc ls st h k z = (len = 3 ∧ ab_so (ca i) fun q => (q.1 = 0 ∨ q.1 = 3) ∧ ab_so (ab_pop q.2.2.1 [] st) fun ar => (ab_sz ar.2 ≤ 8 ∧ k + q.2.2.2.1 ≤ MC ∧ z + q.2.2.2.2.1 ≤ MS ∧ (q.1 = 0 → ab_rv ar.1 h q.2.1)) ∧ q.2.2.2.2.2 ar.1 h fun rv h' => V (pc + 3) ls (ab_ret rv ar.2) h' (k + q.2.2.2.1) (z + q.2.2.2.2.1)) := rfl
theorem ae_invokespecial (tb : ATb) (ts : List Nat) (base : Nat) (ca : Nat → Option ACS) (rt : Nat) (MC MS : Nat) (K : Option AV → AH → Prop) (V : AVt) (i : Nat) (len pc : Nat) (ls : ALs) (st : List AV) (h : AH) (k z : Nat) : ab_s1 tb ts base ca rt MC MS K V (.invokespecial i) len pc ls st h k z = (len = 3 ∧ ab_so (ca i) fun q => q.1 = 1 ∧ ab_so (ab_pop q.2.2.1 [] st) fun ar => (ab_sz ar.2 ≤ 8 ∧ k + q.2.2.2.1 ≤ MC ∧ z + q.2.2.2.2.1 ≤ MS) ∧ q.2.2.2.2.2 ar.1 h fun rv h' => V (pc + 3) ls (ab_ret rv ar.2) h' (k + q.2.2.2.1) (z + q.2.2.2.2.1)) := rfl
theorem ae_invokestatic (tb : ATb) (ts : List Nat) (base : Nat) (ca : Nat → Option ACS) (rt : Nat) (MC MS : Nat) (K : Option AV → AH → Prop) (V : AVt) (i : Nat) (len pc : Nat) (ls : ALs) (st : List AV) (h : AH) (k z : Nat) : ab_s1 tb ts base ca rt MC MS K V (.invokestatic i) len pc ls st h k z = (len = 3 ∧ ab_so (ca i) fun q => q.1 = 2 ∧ ab_so (ab_pop q.2.2.1 [] st) fun ar => (ab_sz ar.2 ≤ 8 ∧ k + q.2.2.2.1 ≤ MC ∧ z + q.2.2.2.2.1 ≤ MS) ∧ q.2.2.2.2.2 ar.1 h fun rv h' => V (pc + 3) ls (ab_ret rv ar.2) h' (k + q.2.2.2.1) (z + q.2.2.2.2.1)) := rfl
theorem ae_ireturn (tb : ATb) (ts : List Nat) (base : Nat) (ca : Nat → Option ACS) (rt : Nat) (MC MS : Nat) (K : Option AV → AH → Prop) (V : AVt)  (len pc : Nat) (ls : ALs) (st : List AV) (h : AH) (k z : Nat) : ab_s1 tb ts base ca rt MC MS K V .ireturn len pc ls st h k z = (len = 1 ∧ ab_I st fun v r => (r = [] ∧ (rt = 1 ∨ rt = 2 ∧ (v = 0 ∨ v = 1))) ∧ K (some (.inl v)) h) := rfl
theorem ae_areturn (tb : ATb) (ts : List Nat) (base : Nat) (ca : Nat → Option ACS) (rt : Nat) (MC MS : Nat) (K : Option AV → AH → Prop) (V : AVt)  (len pc : Nat) (ls : ALs) (st : List AV) (h : AH) (k z : Nat) : ab_s1 tb ts base ca rt MC MS K V .areturn len pc ls st h k z = (len = 1 ∧ ab_A st fun v r => (r = [] ∧ rt = 3) ∧ K (some (.inr (.inl v))) h) := rfl
theorem ae_dreturn (tb : ATb) (ts : List Nat) (base : Nat) (ca : Nat → Option ACS) (rt : Nat) (MC MS : Nat) (K : Option AV → AH → Prop) (V : AVt)  (len pc : Nat) (ls : ALs) (st : List AV) (h : AH) (k z : Nat) : ab_s1 tb ts base ca rt MC MS K V .dreturn len pc ls st h k z = (len = 1 ∧ ab_vD st.head? fun v => (st.tail = [] ∧ rt = 4) ∧ K (some (.inr (.inr (.inr v)))) h) := rfl
theorem ae_return_ (tb : ATb) (ts : List Nat) (base : Nat) (ca : Nat → Option ACS) (rt : Nat) (MC MS : Nat) (K : Option AV → AH → Prop) (V : AVt)  (len pc : Nat) (ls : ALs) (st : List AV) (h : AH) (k z : Nat) : ab_s1 tb ts base ca rt MC MS K V .return_ len pc ls st h k z = (len = 1 ∧ (st = [] ∧ rt = 0) ∧ K none h) := rfl
theorem ae_i2d (tb : ATb) (ts : List Nat) (base : Nat) (ca : Nat → Option ACS) (rt : Nat) (MC MS : Nat) (K : Option AV → AH → Prop) (V : AVt)  (len pc : Nat) (ls : ALs) (st : List AV) (h : AH) (k z : Nat) : ab_s1 tb ts base ca rt MC MS K V .i2d len pc ls st h k z = (len = 1 ∧ ab_I st fun v r => V (pc + 1) ls (.inr (.inr (.inr (FP.i2d (Int32.ofInt v)))) :: r) h k z) := rfl
theorem ae_ddiv (tb : ATb) (ts : List Nat) (base : Nat) (ca : Nat → Option ACS) (rt : Nat) (MC MS : Nat) (K : Option AV → AH → Prop) (V : AVt)  (len pc : Nat) (ls : ALs) (st : List AV) (h : AH) (k z : Nat) : ab_s1 tb ts base ca rt MC MS K V .ddiv len pc ls st h k z = (len = 1 ∧ ab_DD st fun a b r => vf_n64 (FP.ddiv a b) ∧ V (pc + 1) ls (.inr (.inr (.inr (FP.ddiv a b))) :: r) h k z) := rfl
theorem ae_dcmp (tb : ATb) (ts : List Nat) (base : Nat) (ca : Nat → Option ACS) (rt : Nat) (MC MS : Nat) (K : Option AV → AH → Prop) (V : AVt) (op : ClassFile.CmpOp) (len pc : Nat) (ls : ALs) (st : List AV) (h : AH) (k z : Nat) : ab_s1 tb ts base ca rt MC MS K V (.dcmp op) len pc ls st h k z = (len = 1 ∧ ab_DD st fun a b r => V (pc + 1) ls (.inl (Op.cmpValue (FP.dcmp a b) op).toInt :: r) h k z) := rfl
theorem ae_lload (tb : ATb) (ts : List Nat) (base : Nat) (ca : Nat → Option ACS) (rt : Nat) (MC MS : Nat) (K : Option AV → AH → Prop) (V : AVt) (i : Nat) (len pc : Nat) (ls : ALs) (st : List AV) (h : AH) (k z : Nat) : ab_s1 tb ts base ca rt MC MS K V (.lload i) len pc ls st h k z = (len = 2 ∧ ab_vL (ab_g ls i) fun v => V (pc + 2) ls (.inr (.inr (.inl v)) :: st) h k z) := rfl
theorem ae_lload_n (tb : ATb) (ts : List Nat) (base : Nat) (ca : Nat → Option ACS) (rt : Nat) (MC MS : Nat) (K : Option AV → AH → Prop) (V : AVt) (i : Fin 4) (len pc : Nat) (ls : ALs) (st : List AV) (h : AH) (k z : Nat) : ab_s1 tb ts base ca rt MC MS K V (.lload_n i) len pc ls st h k z = (len = 1 ∧ ab_vL (ab_g ls (ab_f4 i)) fun v => V (pc + 1) ls (.inr (.inr (.inl v)) :: st) h k z) := rfl
theorem ae_lstore (tb : ATb) (ts : List Nat) (base : Nat) (ca : Nat → Option ACS) (rt : Nat) (MC MS : Nat) (K : Option AV → AH → Prop) (V : AVt) (i : Nat) (len pc : Nat) (ls : ALs) (st : List AV) (h : AH) (k z : Nat) : ab_s1 tb ts base ca rt MC MS K V (.lstore i) len pc ls st h k z = (len = 2 ∧ ab_vL st.head? fun v => ab_so (ab_st ls i (.inr (.inr (.inl v)))) fun l1 => ab_so (ab_cl l1 (i + 1)) fun ls' => V (pc + 2) ls' st.tail h k z) := rfl
theorem ae_lstore_n (tb : ATb) (ts : List Nat) (base : Nat) (ca : Nat → Option ACS) (rt : Nat) (MC MS : Nat) (K : Option AV → AH → Prop) (V : AVt) (i : Fin 4) (len pc : Nat) (ls : ALs) (st : List AV) (h : AH) (k z : Nat) : ab_s1 tb ts base ca rt MC MS K V (.lstore_n i) len pc ls st h k z = (len = 1 ∧ ab_vL st.head? fun v => ab_so (ab_st ls (ab_f4 i) (.inr (.inr (.inl v)))) fun l1 => ab_so (ab_cl l1 (ab_f4 i + 1)) fun ls' => V (pc + 1) ls' st.tail h k z) := rfl
theorem ae_dload (tb : ATb) (ts : List Nat) (base : Nat) (ca : Nat → Option ACS) (rt : Nat) (MC MS : Nat) (K : Option AV → AH → Prop) (V : AVt) (i : Nat) (len pc : Nat) (ls : ALs) (st : List AV) (h : AH) (k z : Nat) : ab_s1 tb ts base ca rt MC MS K V (.dload i) len pc ls st h k z = (len = 2 ∧ ab_vD (ab_g ls i) fun v => V (pc + 2) ls (.inr (.inr (.inr v)) :: st) h k z) := rfl
theorem ae_dload_n (tb : ATb) (ts : List Nat) (base : Nat) (ca : Nat → Option ACS) (rt : Nat) (MC MS : Nat) (K : Option AV → AH → Prop) (V : AVt) (i : Fin 4) (len pc : Nat) (ls : ALs) (st : List AV) (h : AH) (k z : Nat) : ab_s1 tb ts base ca rt MC MS K V (.dload_n i) len pc ls st h k z = (len = 1 ∧ ab_vD (ab_g ls (ab_f4 i)) fun v => V (pc + 1) ls (.inr (.inr (.inr v)) :: st) h k z) := rfl
theorem ae_dstore (tb : ATb) (ts : List Nat) (base : Nat) (ca : Nat → Option ACS) (rt : Nat) (MC MS : Nat) (K : Option AV → AH → Prop) (V : AVt) (i : Nat) (len pc : Nat) (ls : ALs) (st : List AV) (h : AH) (k z : Nat) : ab_s1 tb ts base ca rt MC MS K V (.dstore i) len pc ls st h k z = (len = 2 ∧ ab_vD st.head? fun v => ab_so (ab_st ls i (.inr (.inr (.inr v)))) fun l1 => ab_so (ab_cl l1 (i + 1)) fun ls' => V (pc + 2) ls' st.tail h k z) := rfl
theorem ae_dstore_n (tb : ATb) (ts : List Nat) (base : Nat) (ca : Nat → Option ACS) (rt : Nat) (MC MS : Nat) (K : Option AV → AH → Prop) (V : AVt) (i : Fin 4) (len pc : Nat) (ls : ALs) (st : List AV) (h : AH) (k z : Nat) : ab_s1 tb ts base ca rt MC MS K V (.dstore_n i) len pc ls st h k z = (len = 1 ∧ ab_vD st.head? fun v => ab_so (ab_st ls (ab_f4 i) (.inr (.inr (.inr v)))) fun l1 => ab_so (ab_cl l1 (ab_f4 i + 1)) fun ls' => V (pc + 1) ls' st.tail h k z) := rfl
theorem ae_ladd (tb : ATb) (ts : List Nat) (base : Nat) (ca : Nat → Option ACS) (rt : Nat) (MC MS : Nat) (K : Option AV → AH → Prop) (V : AVt)  (len pc : Nat) (ls : ALs) (st : List AV) (h : AH) (k z : Nat) : ab_s1 tb ts base ca rt MC MS K V .ladd len pc ls st h k z = (len = 1 ∧ ab_LL st fun a b r => V (pc + 1) ls (.inr (.inr (.inl (a + b))) :: r) h k z) := rfl
theorem ae_lmul (tb : ATb) (ts : List Nat) (base : Nat) (ca : Nat → Option ACS) (rt : Nat) (MC MS : Nat) (K : Option AV → AH → Prop) (V : AVt)  (len pc : Nat) (ls : ALs) (st : List AV) (h : AH) (k z : Nat) : ab_s1 tb ts base ca rt MC MS K V .lmul len pc ls st h k z = (len = 1 ∧ ab_LL st fun a b r => V (pc + 1) ls (.inr (.inr (.inl (a * b))) :: r) h k z) := rfl
theorem ae_i2l (tb : ATb) (ts : List Nat) (base : Nat) (ca : Nat → Option ACS) (rt : Nat) (MC MS : Nat) (K : Option AV → AH → Prop) (V : AVt)  (len pc : Nat) (ls : ALs) (st : List AV) (h : AH) (k z : Nat) : ab_s1 tb ts base ca rt MC MS K V .i2l len pc ls st h k z = (len = 1 ∧ ab_I st fun v r => ab_in v ∧ V (pc + 1) ls (.inr (.inr (.inl v)) :: r) h k z) := rfl
theorem ae_lcmp (tb : ATb) (ts : List Nat) (base : Nat) (ca : Nat → Option ACS) (rt : Nat) (MC MS : Nat) (K : Option AV → AH → Prop) (V : AVt)  (len pc : Nat) (ls : ALs) (st : List AV) (h : AH) (k z : Nat) : ab_s1 tb ts base ca rt MC MS K V .lcmp len pc ls st h k z = (len = 1 ∧ ab_LL st fun a b r => (a = b → V (pc + 1) ls (.inl 0 :: r) h k z) ∧ (¬ a = b → (ab_in a ∧ ab_in b) ∧ V (pc + 1) ls (.inl (if b < a then 1 else -1) :: r) h k z)) := rfl
theorem ae_lreturn (tb : ATb) (ts : List Nat) (base : Nat) (ca : Nat → Option ACS) (rt : Nat) (MC MS : Nat) (K : Option AV → AH → Prop) (V : AVt)  (len pc : Nat) (ls : ALs) (st : List AV) (h : AH) (k z : Nat) : ab_s1 tb ts base ca rt MC MS K V .lreturn len pc ls st h k z = (len = 1 ∧ ab_vL st.head? fun v => (st.tail = [] ∧ rt = 5) ∧ K (some (.inr (.inr (.inl v)))) h) := rfl
theorem ae_laload (tb : ATb) (ts : List Nat) (base : Nat) (ca : Nat → Option ACS) (rt : Nat) (MC MS : Nat) (K : Option AV → AH → Prop) (V : AVt)  (len pc : Nat) (ls : ALs) (st : List AV) (h : AH) (k z : Nat) : ab_s1 tb ts base ca rt MC MS K V .laload len pc ls st h k z = (len = 1 ∧ ab_IR st fun i a r => ab_pr (h a) fun t n f => (t = 2 ∧ 0 ≤ i ∧ i < (n : Int) ∧ i ≤ 2147483647) ∧ V (pc + 1) ls (.inr (.inr (.inl (f i))) :: r) h k z) := rfl
theorem ae_lastore (tb : ATb) (ts : List Nat) (base : Nat) (ca : Nat → Option ACS) (rt : Nat) (MC MS : Nat) (K : Option AV → AH → Prop) (V : AVt)  (len pc : Nat) (ls : ALs) (st : List AV) (h : AH) (k z : Nat) : ab_s1 tb ts base ca rt MC MS K V .lastore len pc ls st h k z = (len = 1 ∧ ab_VIR st fun v i a r => ab_pr (h a) fun t n f => (t = 2 ∧ 0 ≤ i ∧ i < (n : Int) ∧ i ≤ 2147483647) ∧ ab_vL (some v) fun x => V (pc + 1) ls r (ab_up h a (.inr (.inl (2, n, ab_uf f i x)))) k z) := rfl
theorem ae_anewarray (tb : ATb) (ts : List Nat) (base : Nat) (ca : Nat → Option ACS) (rt : Nat) (MC MS : Nat) (K : Option AV → AH → Prop) (V : AVt) (i : Nat) (len pc : Nat) (ls : ALs) (st : List AV) (h : AH) (k z : Nat) : ab_s1 tb ts base ca rt MC MS K V (.anewarray i) len pc ls st h k z = (len = 3 ∧ ab_so (tb.2.2.2.2 i) fun q9 => q9 = 0 ∧ ab_I st fun n r => (3 ∈ ts ∧ 0 ≤ n ∧ n ≤ 67108864 ∧ k + 1 ≤ MC ∧ z + n.toNat ≤ MS) ∧ ∀ a, h a = none → base ≤ a → V (pc + 3) ls (.inr (.inl (some a)) :: r) (ab_up h a (.inr (.inr (3, n.toNat, fun _ => none)))) (k + 1) (z + n.toNat)) := rfl
theorem ae_aastore (tb : ATb) (ts : List Nat) (base : Nat) (ca : Nat → Option ACS) (rt : Nat) (MC MS : Nat) (K : Option AV → AH → Prop) (V : AVt)  (len pc : Nat) (ls : ALs) (st : List AV) (h : AH) (k z : Nat) : ab_s1 tb ts base ca rt MC MS K V .aastore len pc ls st h k z = (len = 1 ∧ ab_VIR st fun v i a r => ab_qr (h a) fun _ n f => (0 ≤ i ∧ i < (n : Int) ∧ i ≤ 2147483647) ∧ ab_Rf [v] fun q _ => ab_pr (h q) fun t _ _ => t = 0 ∧ V (pc + 1) ls r (ab_up h a (.inr (.inr (3, n, ab_uf f i (some q))))) k z) := rfl
theorem ae_checkcast (tb : ATb) (ts : List Nat) (base : Nat) (ca : Nat → Option ACS) (rt : Nat) (MC MS : Nat) (K : Option AV → AH → Prop) (V : AVt) (i : Nat) (len pc : Nat) (ls : ALs) (st : List AV) (h : AH) (k z : Nat) : ab_s1 tb ts base ca rt MC MS K V (.checkcast i) len pc ls st h k z = (len = 3 ∧ ab_so (tb.2.2.2.2 i) fun q9 => q9 = 0 ∧ ab_Rf st fun a r => ab_pr (h a) fun t _ _ => t = 0 ∧ V (pc + 3) ls (.inr (.inl (some a)) :: r) h k z) := rfl
theorem ae_multianewarray (tb : ATb) (ts : List Nat) (base : Nat) (ca : Nat → Option ACS) (rt : Nat) (MC MS : Nat) (K : Option AV → AH → Prop) (V : AVt) (i d : Nat) (len pc : Nat) (ls : ALs) (st : List AV) (h : AH) (k z : Nat) : ab_s1 tb ts base ca rt MC MS K V (.multianewarray i d) len pc ls st h k z = (len = 4 ∧ d = 2 ∧ ab_so (tb.2.2.2.2 i) fun q9 => q9 = 1 ∧ ab_II st fun n m r => ((3 ∈ ts ∧ 0 ∈ ts) ∧ (0 ≤ n ∧ n ≤ 1000 ∧ 0 ≤ m ∧ m ≤ 1000) ∧ k + (1 + n.toNat) ≤ MC ∧ z + (n.toNat + n.toNat * m.toNat) ≤ MS) ∧ ∀ a, (∀ b, a ≤ b → h b = none) → base ≤ a → V (pc + 4) ls (.inr (.inl (some a)) :: r) (ab_grid h a n.toNat m.toNat) (k + (1 + n.toNat)) (z + (n.toNat + n.toNat * m.toNat))) := rfl
