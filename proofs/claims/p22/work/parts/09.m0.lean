/-! ===== the pictures of the class's objects ===== -/
def ab_moq (_ : Nat) (q : ACS) : Prop := ab_mo q.2.2.2.2.2
def lw_ts : List Nat := [0, 1, 3]
theorem lw_ar0 : ∀ t, ab_at t ∈ lw_ts → Jvm.Cond.arrayClass (newarray.typeOf t) ∈ lw_wd := by
  intro t ht
  cases t
  case int => exact lw_wi (by decide +kernel) (by decide +kernel)
  case boolean => exact lw_wi (by decide +kernel) (by decide +kernel)
  all_goals exact absurd ht (by decide)
theorem lw_ar : (∀ t, ab_at t ∈ lw_ts → Jvm.Cond.arrayClass (newarray.typeOf t) ∈ lw_wd) ∧ Jvm.Cond.arrayOver (.array .int) ∈ lw_wd := ⟨lw_ar0, lw_wi (by decide +kernel) (by decide +kernel)⟩
def bI (b : Bool) : Int := bif b then 1 else 0
theorem bI_in (b : Bool) : ab_in (bI b) := by cases b <;> exact ⟨by decide, by decide⟩
theorem bI_0 (b : Bool) : (bI b = 0) = (b = false) := by cases b <;> simp [bI]
theorem bI_1 (b : Bool) : (bI b = 1) = (b = true) := by cases b <;> simp [bI]
theorem bI_01 (b : Bool) : (bI b = 0 ∨ bI b = 1) = True := by cases b <;> simp [bI]
theorem bI_t : bI true = 1 := rfl
theorem bI_f : bI false = 0 := rfl
theorem ab_in_iff (v : Int) : ab_in v = (-2147483648 ≤ v ∧ v ≤ 2147483647) := rfl
/-- a roof's numbers: numbers, rot, rows, froms, wides, nails, cracked, onRoof, goes; day, laid, there, blownAway -/
abbrev RS : Type := (Int → Int) × (Int → Int) × (Int → Int) × (Int → Int) × (Int → Int) × (Int → Int) × (Int → Int) × (Int → Int) × (Int → Int) × Int × Int × Int × Int
abbrev RS.num (S : RS) : Int → Int := S.1
abbrev RS.rot (S : RS) : Int → Int := S.2.1
abbrev RS.row (S : RS) : Int → Int := S.2.2.1
abbrev RS.frm (S : RS) : Int → Int := S.2.2.2.1
abbrev RS.wid (S : RS) : Int → Int := S.2.2.2.2.1
abbrev RS.nai (S : RS) : Int → Int := S.2.2.2.2.2.1
abbrev RS.crk (S : RS) : Int → Int := S.2.2.2.2.2.2.1
abbrev RS.onr (S : RS) : Int → Int := S.2.2.2.2.2.2.2.1
abbrev RS.goe (S : RS) : Int → Int := S.2.2.2.2.2.2.2.2.1
abbrev RS.day (S : RS) : Int := S.2.2.2.2.2.2.2.2.2.1
abbrev RS.laid (S : RS) : Int := S.2.2.2.2.2.2.2.2.2.2.1
abbrev RS.there (S : RS) : Int := S.2.2.2.2.2.2.2.2.2.2.2.1
abbrev RS.blown (S : RS) : Int := S.2.2.2.2.2.2.2.2.2.2.2.2
/-- what a roof's numbers keep to, always -/
def RB (S : RS) : Prop := (∀ i, -1 ≤ S.num i ∧ S.num i < 200) ∧ (∀ i, 0 ≤ S.rot i ∧ S.rot i ≤ 9) ∧ (∀ i, 0 ≤ S.row i ∧ S.row i ≤ 7) ∧ (∀ i, 0 ≤ S.frm i ∧ 0 ≤ S.wid i ∧ S.wid i ≤ 4 ∧ S.frm i + S.wid i ≤ 12) ∧ (∀ i, 0 ≤ S.nai i ∧ S.nai i ≤ 3) ∧
  (∀ i, S.crk i = 0 ∨ S.crk i = 1) ∧ (∀ i, S.onr i = 0 ∨ S.onr i = 1) ∧ (∀ i, S.goe i = 0 ∨ S.goe i = 1) ∧ (0 ≤ S.day ∧ S.day ≤ 2000000000) ∧ (0 ≤ S.laid ∧ S.laid ≤ 200)
theorem RB.num_r {S : RS} (h : RB S) (i : Int) : -1 ≤ S.num i ∧ S.num i < 200 := h.1 i
theorem RB.rot_r {S : RS} (h : RB S) (i : Int) : 0 ≤ S.rot i ∧ S.rot i ≤ 9 := h.2.1 i
theorem RB.row_r {S : RS} (h : RB S) (i : Int) : 0 ≤ S.row i ∧ S.row i ≤ 7 := h.2.2.1 i
theorem RB.frm_r {S : RS} (h : RB S) (i : Int) : 0 ≤ S.frm i ∧ 0 ≤ S.wid i ∧ S.wid i ≤ 4 ∧ S.frm i + S.wid i ≤ 12 := h.2.2.2.1 i
theorem RB.nai_r {S : RS} (h : RB S) (i : Int) : 0 ≤ S.nai i ∧ S.nai i ≤ 3 := h.2.2.2.2.1 i
theorem RB.crk_r {S : RS} (h : RB S) (i : Int) : S.crk i = 0 ∨ S.crk i = 1 := h.2.2.2.2.2.1 i
theorem RB.onr_r {S : RS} (h : RB S) (i : Int) : S.onr i = 0 ∨ S.onr i = 1 := h.2.2.2.2.2.2.1 i
theorem RB.goe_r {S : RS} (h : RB S) (i : Int) : S.goe i = 0 ∨ S.goe i = 1 := h.2.2.2.2.2.2.2.1 i
theorem RB.day_r {S : RS} (h : RB S) : 0 ≤ S.day ∧ S.day ≤ 2000000000 := h.2.2.2.2.2.2.2.2.1
theorem RB.laid_r {S : RS} (h : RB S) : 0 ≤ S.laid ∧ S.laid ≤ 200 := h.2.2.2.2.2.2.2.2.2
/-- the cells of a roof with these numbers, its rows' addresses ns -/
def roofCells (h : AH) (a : Nat) (ns : List Nat) (S : RS) : Prop := ∃ n0 n1 n2 n3 n4 n5 n6 n7 n8 : Nat, ns = [n0, n1, n2, n3, n4, n5, n6, n7, n8] ∧ (a :: ns).Nodup ∧
  h a = some (.inl (1, [.inr (.inl (some n0)), .inr (.inl (some n1)), .inr (.inl (some n2)), .inr (.inl (some n3)), .inr (.inl (some n4)), .inr (.inl (some n5)), .inr (.inl (some n6)), .inr (.inl (some n7)), .inr (.inl (some n8)), .inl S.day, .inl S.laid, .inl S.there, .inl S.blown])) ∧
  h n0 = some (.inr (.inl (0, 96, S.num))) ∧ h n1 = some (.inr (.inl (0, 96, S.rot))) ∧ h n2 = some (.inr (.inl (0, 200, S.row))) ∧ h n3 = some (.inr (.inl (0, 200, S.frm))) ∧ h n4 = some (.inr (.inl (0, 200, S.wid))) ∧ h n5 = some (.inr (.inl (0, 200, S.nai))) ∧
  h n6 = some (.inr (.inl (1, 200, S.crk))) ∧ h n7 = some (.inr (.inl (1, 200, S.onr))) ∧ h n8 = some (.inr (.inl (1, 200, S.goe)))
def roofAt (h : AH) (a : Nat) (P : List Nat × RS) : Prop := RB P.2 ∧ roofCells h a P.1 P.2
theorem roof_uni {h : AH} {a : Nat} {P P' : List Nat × RS} (h1 : roofAt h a P) (h2 : roofAt h a P') : P = P' := by
  obtain ⟨ns, S⟩ := P
  obtain ⟨ns', S'⟩ := P'
  obtain ⟨q0, q1, q2, q3, q4, q5, q6, q7, q8, q9, q10, q11, q12⟩ := S
  obtain ⟨r0, r1, r2, r3, r4, r5, r6, r7, r8, r9, r10, r11, r12⟩ := S'
  obtain ⟨-, n0, n1, n2, n3, n4, n5, n6, n7, n8, e, -, c, c0, c1, c2, c3, c4, c5, c6, c7, c8⟩ := h1
  obtain ⟨-, m0, m1, m2, m3, m4, m5, m6, m7, m8, e', -, d, d0, d1, d2, d3, d4, d5, d6, d7, d8⟩ := h2
  have hc := c.symm.trans d
  simp only [Option.some.injEq, Sum.inl.injEq, Sum.inr.injEq, Prod.mk.injEq, List.cons.injEq, true_and, and_true] at hc
  obtain ⟨g0, g1, g2, g3, g4, g5, g6, g7, g8, g9, g10, g11, g12⟩ := hc
  subst g0 g1 g2 g3 g4 g5 g6 g7 g8
  have h0 := c0.symm.trans d0
  have h1 := c1.symm.trans d1
  have h2 := c2.symm.trans d2
  have h3 := c3.symm.trans d3
  have h4 := c4.symm.trans d4
  have h5 := c5.symm.trans d5
  have h6 := c6.symm.trans d6
  have h7 := c7.symm.trans d7
  have h8 := c8.symm.trans d8
  simp only [Option.some.injEq, Sum.inl.injEq, Sum.inr.injEq, Prod.mk.injEq, true_and] at h0 h1 h2 h3 h4 h5 h6 h7 h8
  simp only [Prod.mk.injEq]
  exact ⟨e.trans e'.symm, h0, h1, h2, h3, h4, h5, h6, h7, h8, g9, g10, g11, g12⟩
noncomputable def ab_roof (h : AH) (a : Nat) : Option (List Nat × RS) := @dite _ (∃ P, roofAt h a P) (Classical.propDecidable _) (fun q => some (Classical.choose q)) (fun _ => none)
theorem roof_of {h : AH} {a : Nat} {P : List Nat × RS} (h1 : roofAt h a P) : ab_roof h a = some P := by
  unfold ab_roof
  rw [dif_pos ⟨P, h1⟩]
  exact congrArg some (roof_uni (Classical.choose_spec (⟨P, h1⟩ : ∃ P, roofAt h a P)) h1)
theorem roof_el {h : AH} {a : Nat} {ns : List Nat} {S : RS} (h1 : ab_roof h a = some (ns, S)) : RB S ∧ roofCells h a ns S := by
  suffices q : roofAt h a (ns, S) from q
  unfold ab_roof at h1
  split at h1
  · rename_i q; have e := Option.some.inj h1; rw [← e]; exact Classical.choose_spec q
  · cases h1
/-! ===== sums and tests over a span ===== -/
def anyR (p : Int → Bool) : Nat → Int → Bool
  | 0, _ => false
  | n + 1, x => p x || anyR p n (x + 1)
def allR (p : Int → Bool) : Nat → Int → Bool
  | 0, _ => true
  | n + 1, x => p x && allR p n (x + 1)
def sumR (f : Int → Int) : Nat → Int → Int
  | 0, _ => 0
  | n + 1, x => f x + sumR f n (x + 1)
theorem sumR_r {f : Int → Int} {lo hi : Int} (hf : ∀ x, lo ≤ f x ∧ f x ≤ hi) : ∀ (n : Nat) (x : Int), lo * n ≤ sumR f n x ∧ sumR f n x ≤ hi * n := by
  intro n
  induction n with
  | zero => intro x; simp [sumR]
  | succ n ih =>
    intro x
    have h1 := hf x
    have h2 := ih (x + 1)
    have e1 : lo * ((n + 1 : Nat) : Int) = lo * n + lo := by rw [Int.natCast_add, Int.mul_add]; simp
    have e2 : hi * ((n + 1 : Nat) : Int) = hi * n + hi := by rw [Int.natCast_add, Int.mul_add]; simp
    simp only [sumR]
    rw [e1, e2]
    omega
theorem sumR_congr {f g : Int → Int} : ∀ (n : Nat) (x : Int), (∀ j, x ≤ j → j < x + n → f j = g j) → sumR f n x = sumR g n x := by
  intro n
  induction n with
  | zero => intro x _; rfl
  | succ n ih =>
    intro x h
    simp only [sumR]
    rw [h x (by omega) (by omega), ih (x + 1) (fun j h1 h2 => h j (by omega) (by omega))]
theorem anyR_iff {p : Int → Bool} : ∀ (n : Nat) (x : Int), anyR p n x = true ↔ ∃ j, x ≤ j ∧ j < x + n ∧ p j = true := by
  intro n
  induction n with
  | zero => intro x; simp only [anyR]; constructor
            · intro h; cases h
            · rintro ⟨j, h1, h2, -⟩; omega
  | succ n ih =>
    intro x
    simp only [anyR, Bool.or_eq_true]
    rw [ih (x + 1)]
    constructor
    · rintro (h | ⟨j, h1, h2, h3⟩)
      · exact ⟨x, by omega, by omega, h⟩
      · exact ⟨j, by omega, by omega, h3⟩
    · rintro ⟨j, h1, h2, h3⟩
      by_cases hj : j = x
      · subst hj; exact Or.inl h3
      · exact Or.inr ⟨j, by omega, by omega, h3⟩
theorem allR_iff {p : Int → Bool} : ∀ (n : Nat) (x : Int), allR p n x = true ↔ ∀ j, x ≤ j → j < x + n → p j = true := by
  intro n
  induction n with
  | zero => intro x; simp only [allR]; constructor
            · intro _ j h1 h2; omega
            · intro _; trivial
  | succ n ih =>
    intro x
    simp only [allR, Bool.and_eq_true]
    rw [ih (x + 1)]
    constructor
    · rintro ⟨h, h2⟩ j h3 h4
      by_cases hj : j = x
      · subst hj; exact h
      · exact h2 j (by omega) (by omega)
    · intro h
      exact ⟨h x (by omega) (by omega), fun j h1 h2 => h j (by omega) (by omega)⟩
