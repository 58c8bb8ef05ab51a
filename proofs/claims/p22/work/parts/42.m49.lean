/-! ===== the two roofs: what is the same in both ===== -/
def atP (S : RS) (s x y : Int) : Prop := (0 ≤ s ∧ s < S.laid ∧ S.onr s = 1) ∧ S.row s = y ∧ S.frm s ≤ x ∧ x < S.frm s + S.wid s
def WF (S : RS) : Prop := (∀ s, 0 ≤ s → s < S.laid → 1 ≤ S.wid s ∧ 1 ≤ S.nai s) ∧ (∀ s x y, atP S s x y → numberAtF S x y = s) ∧ (∀ x y, numberAtF S x y = -1 ∨ atP S (numberAtF S x y) x y) ∧ (S.there = sumR (fun s => bI (decide (S.onr s = 1))) S.laid.toNat 0 ∧ S.there ≤ 60) ∧ (0 ≤ S.blown ∧ S.blown + S.there ≤ S.laid)
def RelS (S : RS) (M : SM) : Prop := (M.n : Int) = S.laid ∧ (∀ k, 0 ≤ k → k < S.laid → M.sl k 0 = S.row k ∧ M.sl k 1 = S.frm k ∧ M.sl k 2 = S.wid k ∧ M.sl k 3 = S.nai k ∧ M.sl k 4 = S.crk k ∧ M.sl k 5 = S.onr k) ∧ (∀ x y, 0 ≤ x → x ≤ 11 → 0 ≤ y → y ≤ 7 → M.rt x y = S.rot (12 * y + x)) ∧ M.day = S.day ∧ M.tk = S.blown
theorem sumR_congrN {f g : Int → Int} (n : Nat) (h : ∀ j, 0 ≤ j → j < (n : Int) → f j = g j) : sumR f n 0 = sumR g n 0 := sumR_congr n 0 (fun j h0 h1 => h j h0 (by omega))
theorem anyR_congrN {f g : Int → Bool} (n : Nat) (h : ∀ j, 0 ≤ j → j < (n : Int) → f j = g j) : anyR f n 0 = anyR g n 0 := by
  cases h1 : anyR f n 0 with
  | true =>
    obtain ⟨j, h0, h2, h3⟩ := (anyR_iff _ _).mp h1
    exact ((anyR_iff _ _).mpr ⟨j, h0, h2, by rw [← h j h0 (by omega)]; exact h3⟩).symm
  | false =>
    cases h4 : anyR g n 0 with
    | false => rfl
    | true =>
      obtain ⟨j, h0, h2, h3⟩ := (anyR_iff _ _).mp h4
      rw [← h1]
      exact (anyR_iff _ _).mpr ⟨j, h0, h2, by rw [h j h0 (by omega)]; exact h3⟩
theorem bool_iff {a b : Bool} (h : a = true ↔ b = true) : a = b := by
  cases a <;> cases b <;> simp at h ⊢
theorem atP_num {S : RS} (hW : WF S) {k x y : Int} (hk : 0 ≤ k) : atP S k x y ↔ numberAtF S x y = k := by
  constructor
  · exact hW.2.1 k x y
  · intro h
    rcases hW.2.2.1 x y with h1 | h1
    · omega
    · rw [h] at h1; exact h1
theorem meets_at {S : RS} {M : SM} (hR : RelS S M) {k : Int} (h0 : 0 ≤ k) (h1 : k < S.laid) (x y : Int) : meetsF (M.sl k) y x 1 = true ↔ atP S k x y := by
  obtain ⟨e0, e1, e2, -, -, e5⟩ := hR.2.1 k h0 h1
  simp only [meetsF, decide_eq_true_eq, e0, e1, e2, e5, atP]
  omega
theorem meets_num {S : RS} {M : SM} (hW : WF S) (hR : RelS S M) {k : Int} (h0 : 0 ≤ k) (h1 : k < S.laid) (x y : Int) : meetsF (M.sl k) y x 1 = decide (numberAtF S x y = k) := by
  apply bool_iff
  rw [meets_at hR h0 h1, atP_num hW h0, decide_eq_true_eq]
theorem meets_any {S : RS} {M : SM} (hW : WF S) (hR : RelS S M) {k : Int} (h0 : 0 ≤ k) (h1 : k < S.laid) (x y w : Int) (hw : 1 ≤ w) : meetsF (M.sl k) y x w = anyR (fun x' => decide (numberAtF S x' y = k)) w.toNat x := by
  apply bool_iff
  rw [anyR_iff]
  obtain ⟨e0, e1, e2, -, -, e5⟩ := hR.2.1 k h0 h1
  have hwd := (hW.1 k h0 h1).1
  simp only [decide_eq_true_eq, meetsF, e0, e1, e2, e5]
  constructor
  · rintro ⟨a1, a2, a3, a4⟩
    by_cases hx : S.frm k ≤ x
    · exact ⟨x, by omega, by omega, hW.2.1 k x y ⟨⟨h0, h1, a1⟩, a2, hx, a4⟩⟩
    · exact ⟨S.frm k, by omega, by omega, hW.2.1 k (S.frm k) y ⟨⟨h0, h1, a1⟩, a2, by omega, by omega⟩⟩
  · rintro ⟨j, b1, b2, b3⟩
    obtain ⟨⟨-, -, c1⟩, c2, c3, c4⟩ := (atP_num hW h0).mpr b3
    exact ⟨c1, c2, by omega, by omega⟩
theorem num_lt {S : RS} (hW : WF S) {x y k : Int} (h : numberAtF S x y = k) (hk : ¬ k = -1) : 0 ≤ k ∧ k < S.laid := by
  rcases hW.2.2.1 x y with h1 | h1
  · rw [h] at h1; exact absurd h1 hk
  · rw [h] at h1; exact ⟨h1.1.1, h1.1.2.1⟩
theorem num_convex {S : RS} (hW : WF S) {k x1 x2 x3 y : Int} (hk : 0 ≤ k) (h12 : x1 ≤ x2) (h23 : x2 ≤ x3) (h1 : numberAtF S x1 y = k) (h3 : numberAtF S x3 y = k) : numberAtF S x2 y = k := by
  have a1 := (atP_num hW hk).mpr h1
  have a3 := (atP_num hW hk).mpr h3
  refine hW.2.1 k x2 y ⟨a1.1, a1.2.1, ?_, ?_⟩
  · have := a1.2.2.1; omega
  · have := a3.2.2.2; omega
theorem sumR_ind {a : Int} : ∀ (n : Nat) (x : Int), sumR (fun j => bI (decide (j = a))) n x = if x ≤ a ∧ a < x + n then 1 else 0 := by
  intro n
  induction n with
  | zero => intro x; rw [if_neg (by omega)]; rfl
  | succ n ih =>
    intro x
    simp only [sumR]
    rw [ih (x + 1)]
    by_cases h1 : x = a
    · rw [decide_eq_true h1, bI_t, if_neg (by omega), if_pos (by omega)]; rfl
    · rw [decide_eq_false h1, bI_f]
      by_cases h2 : x + 1 ≤ a ∧ a < x + 1 + n
      · rw [if_pos h2, if_pos (by omega)]; rfl
      · rw [if_neg h2, if_neg (by omega)]; rfl
/-- who lies upon it, counted one way and the other -/
theorem upon_count {S : RS} (hW : WF S) {y : Int} : ∀ (n : Nat) (x many last : Int), (last = -1 ∨ 0 ≤ last ∧ ∃ x0, x0 < x ∧ numberAtF S x0 y = last) →
    uponL S y n x many last = many + sumR (fun j => bI (anyR (fun x' => decide (numberAtF S x' y = j)) n x && !decide (j = last))) S.laid.toNat 0 := by
  intro n
  induction n with
  | zero =>
    intro x many last _
    simp only [uponL, anyR, Bool.false_and, bI_f]
    have : ∀ (n : Nat) (x : Int), sumR (fun _ => (0 : Int)) n x = 0 := by
      intro n
      induction n with
      | zero => intro x; rfl
      | succ n ih => intro x; simp only [sumR, ih]; rfl
    rw [this]; omega
  | succ n ih =>
    intro x many last hl
    simp only [uponL]
    by_cases h1 : numberAtF S x y = -1
    · rw [if_pos h1, ih (x + 1) many last (by rcases hl with h | ⟨h, x0, h2, h3⟩; exact Or.inl h; exact Or.inr ⟨h, x0, by omega, h3⟩)]
      congr 1
      refine sumR_congrN _ (fun j j0 j1 => ?_)
      have e : decide (numberAtF S x y = j) = false := decide_eq_false (by omega)
      simp only [anyR, e, Bool.false_or]
    · rw [if_neg h1]
      by_cases h2 : numberAtF S x y = last
      · rw [if_pos h2, ih (x + 1) many last (by rcases hl with h | ⟨h, x0, h2, h3⟩; exact Or.inl h; exact Or.inr ⟨h, x0, by omega, h3⟩)]
        congr 1
        refine sumR_congrN _ (fun j j0 j1 => ?_)
        by_cases hj : j = last
        · rw [decide_eq_true hj]; simp
        · have e : decide (numberAtF S x y = j) = false := decide_eq_false (by omega)
          simp only [anyR, e, Bool.false_or]
      · obtain ⟨a0, a1⟩ := num_lt hW rfl h1
        rw [if_neg h2, ih (x + 1) (many + 1) (numberAtF S x y) (Or.inr ⟨a0, x, by omega, rfl⟩)]
        have key : sumR (fun j => bI (anyR (fun x' => decide (numberAtF S x' y = j)) (n + 1) x && !decide (j = last))) S.laid.toNat 0 = sumR (fun j => bI (anyR (fun x' => decide (numberAtF S x' y = j)) n (x + 1) && !decide (j = numberAtF S x y)) + bI (decide (j = numberAtF S x y))) S.laid.toNat 0 := by
          refine sumR_congrN _ (fun j j0 j1 => ?_)
          by_cases hj : j = numberAtF S x y
          · have e : decide (numberAtF S x y = j) = true := decide_eq_true hj.symm
            have e2 : decide (j = last) = false := decide_eq_false (by omega)
            have e3 : decide (j = numberAtF S x y) = true := decide_eq_true hj
            simp only [anyR, e, e2, e3, Bool.true_or, Bool.not_false, Bool.not_true, Bool.and_true, Bool.and_false, bI_t, bI_f]
            rfl
          · have e : decide (numberAtF S x y = j) = false := decide_eq_false (fun q => hj q.symm)
            have e3 : decide (j = numberAtF S x y) = false := decide_eq_false hj
            simp only [anyR, e, e3, Bool.false_or, Bool.not_false, Bool.and_true, bI_f]
            by_cases hj2 : j = last
            · have e4 : anyR (fun x' => decide (numberAtF S x' y = j)) n (x + 1) = false := by
                rw [← Bool.not_eq_true, anyR_iff]
                rintro ⟨x3, b1, b2, b3⟩
                rcases hl with h | ⟨h, x0, b4, b5⟩
                · omega
                · have := num_convex hW (x1 := x0) (x2 := x) (x3 := x3) (y := y) h (by omega) (by omega) b5 (by rw [← hj2]; exact of_decide_eq_true b3)
                  exact h2 this
              rw [e4]; rfl
            · rw [decide_eq_false hj2]
              simp only [Bool.not_false, Bool.and_true]
              omega
        rw [key, ← sumR_add, sumR_ind, if_pos (by omega)]
        omega
theorem upon_eq {S : RS} {M : SM} (hB : RB S) (hW : WF S) (hR : RelS S M) {k : Int} (h0 : 0 ≤ k) (h1 : k < S.laid) (hon : S.onr k = 1) : uponS M (M.sl k) = uponF S k := by
  obtain ⟨e0, e1, e2, -, -, e5⟩ := hR.2.1 k h0 h1
  have hwd := (hW.1 k h0 h1).1
  have hl := hB.laid_r
  have ht : isThereF S k = true := by
    unfold isThereF isKnownF
    rw [decide_eq_true (show 0 ≤ k ∧ k < S.laid ∧ k < 200 by omega), decide_eq_true hon]; rfl
  unfold uponF uponS
  rw [ht, cond_true, upon_count hW _ _ _ _ (Or.inl rfl), e0, e1, e2, Int.zero_add]
  have en : M.n = S.laid.toNat := by have := hR.1; omega
  rw [en]
  refine sumR_congrN _ (fun j j0 j1 => ?_)
  rw [meets_any hW hR j0 (by omega) _ _ _ hwd]
  rw [decide_eq_false (show ¬ j = -1 by omega)]
  simp
theorem free_eq {S : RS} {M : SM} (hW : WF S) (hR : RelS S M) {row from9 wide : Int} (hw : 1 ≤ wide) : freeS M row from9 wide = isFreeF S row from9 wide := by
  apply bool_iff
  unfold freeS isFreeF
  rw [allR_iff, allR_iff]
  have en := hR.1
  constructor
  · intro h x x0 x1
    have aux : ∀ y, (∀ k, 0 ≤ k → k < S.laid → meetsF (M.sl k) y from9 wide = false) → numberAtF S x y = -1 := by
      intro y hy
      by_cases e : numberAtF S x y = -1
      · exact e
      · obtain ⟨a0, a1⟩ := num_lt hW rfl e
        have := hy _ a0 a1
        rw [meets_any hW hR a0 a1 _ _ _ hw, ← Bool.not_eq_true, anyR_iff] at this
        exact absurd ⟨x, x0, x1, decide_eq_true rfl⟩ this
    have hk : ∀ k, 0 ≤ k → k < S.laid → meetsF (M.sl k) row from9 wide = false ∧ meetsF (M.sl k) (row + 1) from9 wide = false := by
      intro k k0 k1
      have := h k k0 (by omega)
      simpa using this
    rw [aux row (fun k a b => (hk k a b).1), aux (row + 1) (fun k a b => (hk k a b).2)]
    rfl
  · intro h k k0 k1
    have aux : ∀ y, (∀ x, from9 ≤ x → x < from9 + wide.toNat → numberAtF S x y = -1) → meetsF (M.sl k) y from9 wide = false := by
      intro y hy
      rw [meets_any hW hR k0 (by omega) _ _ _ hw, ← Bool.not_eq_true, anyR_iff]
      rintro ⟨x, x0, x1, x2⟩
      have := hy x x0 x1
      have := of_decide_eq_true x2
      omega
    have hx : ∀ x, from9 ≤ x → x < from9 + wide.toNat → numberAtF S x row = -1 ∧ numberAtF S x (row + 1) = -1 := by
      intro x x0 x1
      have := h x x0 x1
      simpa using this
    rw [aux row (fun x a b => (hx x a b).1), aux (row + 1) (fun x a b => (hx x a b).2)]
    rfl
theorem at_eq {S : RS} {M : SM} (hW : WF S) (hR : RelS S M) (x y : Int) : atS M x y = numberAtF S x y := by
  have loop : ∀ (m : Nat) (k : Int), k + m = S.laid → 0 ≤ k → (numberAtF S x y = -1 ∨ k ≤ numberAtF S x y) → atL M x y m k = numberAtF S x y := by
    intro m
    induction m with
    | zero =>
      intro k hk h0 hn
      simp only [atL]
      rcases hn with hn | hn
      · exact hn.symm
      · have := num_lt hW (x := x) (y := y) rfl (by omega); omega
    | succ m ih =>
      intro k hk h0 hn
      simp only [atL]
      rw [meets_num hW hR h0 (by omega)]
      by_cases e : numberAtF S x y = k
      · rw [decide_eq_true e]; exact e.symm
      · rw [decide_eq_false e]; exact ih (k + 1) (by omega) (by omega) (by omega)
  have en := hR.1
  refine loop M.n 0 (by omega) (by omega) ?_
  by_cases e : numberAtF S x y = -1
  · exact Or.inl e
  · exact Or.inr (num_lt hW rfl e).1
theorem each_eq {M : SM} {row : Int} : ∀ (n : Nat) (x e : Int), eachL M row n x e = bif anyR (fun x => decide (4 < M.rt x row)) n x then 2 else e := by
  intro n
  induction n with
  | zero => intro x e; rfl
  | succ n ih =>
    intro x e
    simp only [eachL, anyR]
    rw [ih]
    by_cases h : 4 < M.rt x row
    · rw [if_pos h, decide_eq_true h, Bool.true_or]
      cases anyR (fun x => decide (4 < M.rt x row)) n (x + 1) <;> rfl
    · rw [if_neg h, decide_eq_false h, Bool.false_or]
theorem hold_eq {S : RS} {M : SM} (hB : RB S) (hW : WF S) (hR : RelS S M) {k : Int} (h0 : 0 ≤ k) (h1 : k < S.laid) (hon : S.onr k = 1) : holdS M (M.sl k) = holdF S k := by
  have hu := upon_eq hB hW hR h0 h1 hon
  obtain ⟨e0, e1, e2, e3, e4, e5⟩ := hR.2.1 k h0 h1
  have hl := hB.laid_r
  have hk : isKnownF S k = true := decide_eq_true (show 0 ≤ k ∧ k < S.laid ∧ k < 200 by omega)
  have ht : isThereF S k = true := by
    unfold isThereF
    rw [hk, decide_eq_true hon]; rfl
  have hfr := hB.frm_r k
  have hrw := hB.row_r k
  have hro : anyR (fun x => decide (4 < M.rt x (S.row k))) (S.wid k).toNat (S.frm k) = onRotF S k := by
    unfold onRotF
    rw [hk, Bool.true_and]
    apply bool_iff
    rw [anyR_iff, anyR_iff]
    have pt : ∀ x, S.frm k ≤ x → x < S.frm k + (S.wid k).toNat → (decide (4 < M.rt x (S.row k)) = true ↔ (!decide (rotAtF S x (S.row k) < 5)) = true) := by
      intro x x0 x1
      have er : M.rt x (S.row k) = rotAtF S x (S.row k) := by
        rw [hR.2.2.1 x (S.row k) (by omega) (by omega) (by omega) (by omega)]
        unfold rotAtF
        rw [if_pos (by omega)]
      rw [er]
      simp
      omega
    constructor
    · rintro ⟨x, x0, x1, x2⟩; exact ⟨x, x0, x1, (pt x x0 x1).mp x2⟩
    · rintro ⟨x, x0, x1, x2⟩; exact ⟨x, x0, x1, (pt x x0 x1).mpr x2⟩
  unfold holdS holdF
  rw [ht, cond_true, hu, e0, e1, e2, e3, e4, each_eq, hro]
  rcases hB.crk_r k with hc | hc
  · rw [hc, if_neg (by omega), if_pos rfl]
  · rw [hc, if_pos rfl, if_neg (by omega)]
theorem lift_eq {S : RS} {M : SM} (hB : RB S) (hW : WF S) (hR : RelS S M) {k force right : Int} (h0 : 0 ≤ k) (h1 : k < S.laid) (hon : S.onr k = 1) : liftS M (M.sl k) force right = liftF S k force right := by
  obtain ⟨e0, e1, e2, e3, e4, e5⟩ := hR.2.1 k h0 h1
  have hl := hB.laid_r
  have hk : isKnownF S k = true := decide_eq_true (show 0 ≤ k ∧ k < S.laid ∧ k < 200 by omega)
  have hwd := (hW.1 k h0 h1).1
  have en : M.n = S.laid.toNat := by have := hR.1; omega
  have hs : sumR (fun j => bI (sideF (M.sl j) (M.sl k) right)) M.n 0 = sumR (fun j => bI (decide (j = numberAtF S (if right = 0 then S.frm k - 1 else S.frm k + S.wid k) (S.row k)))) M.n 0 := by
    refine sumR_congrN _ (fun j j0 j1 => ?_)
    congr 1
    apply bool_iff
    obtain ⟨f0, f1, f2, f3, f4, f5⟩ := hR.2.1 j j0 (by omega)
    have hjd := (hW.1 j j0 (by omega)).1
    unfold sideF
    rw [decide_eq_true_eq, decide_eq_true_eq, e0, e1, e2, f0, f1, f2, f5]
    have hjk := atP_num hW (x := if right = 0 then S.frm k - 1 else S.frm k + S.wid k) (y := S.row k) j0
    rw [eq_comm (a := j), ← hjk]
    have hown : ∀ x, S.frm k ≤ x → x < S.frm k + S.wid k → atP S j x (S.row k) → j = k := by
      intro x x0 x1 x2
      have a1 := hW.2.1 j x _ x2
      have a2 := hW.2.1 k x (S.row k) ⟨⟨h0, h1, hon⟩, rfl, x0, x1⟩
      omega
    unfold atP at hown ⊢
    by_cases hr : right = 0
    · rw [if_pos hr, if_pos hr]
      constructor
      · rintro ⟨a1, a2, a3⟩
        exact ⟨⟨j0, by omega, a1⟩, a2, by omega, by omega⟩
      · rintro ⟨⟨-, -, a1⟩, a2, a3, a4⟩
        refine ⟨a1, a2, ?_⟩
        by_cases hlt : S.frm k < S.frm j + S.wid j
        · have := hown (S.frm k) (by omega) (by omega) ⟨⟨j0, by omega, a1⟩, a2, by omega, hlt⟩
          subst this; omega
        · omega
    · rw [if_neg hr, if_neg hr]
      constructor
      · rintro ⟨a1, a2, a3⟩
        exact ⟨⟨j0, by omega, a1⟩, a2, by omega, by omega⟩
      · rintro ⟨⟨-, -, a1⟩, a2, a3, a4⟩
        refine ⟨a1, a2, ?_⟩
        by_cases hlt : S.frm j < S.frm k + S.wid k
        · have := hown (S.frm k + S.wid k - 1) (by omega) (by omega) ⟨⟨j0, by omega, a1⟩, a2, by omega, by omega⟩
          subst this; omega
        · omega
  unfold liftS liftF
  rw [hk, cond_true, hs, sumR_ind, e0]
  by_cases hb : numberAtF S (if right = 0 then S.frm k - 1 else S.frm k + S.wid k) (S.row k) = -1
  · rw [if_pos hb, if_neg (by omega)]; omega
  · have := num_lt hW rfl hb
    rw [if_neg hb, if_pos (by omega)]; omega
theorem cov_eq {S : RS} {M : SM} (hB : RB S) (hW : WF S) (hR : RelS S M) (x y : Int) : covS M x y = coveredF S x y := by
  apply bool_iff
  have en := hR.1
  have hl := hB.laid_r
  unfold covS coveredF
  rw [anyR_iff, Bool.or_eq_true]
  have aux : ∀ y, wholeF S x y = true ↔ ∃ k, 0 ≤ k ∧ k < S.laid ∧ numberAtF S x y = k ∧ S.crk k = 0 := by
    intro y
    unfold wholeF isKnownF
    rw [Bool.and_eq_true, decide_eq_true_eq, decide_eq_true_eq]
    constructor
    · rintro ⟨a, b⟩; exact ⟨_, a.1, a.2.1, rfl, b⟩
    · rintro ⟨k, a, b, c, d⟩; rw [c]; exact ⟨⟨a, b, by omega⟩, d⟩
  rw [aux y, aux (y + 1)]
  constructor
  · rintro ⟨k, k0, k1, k2⟩
    rw [Bool.and_eq_true, Bool.or_eq_true, decide_eq_true_eq, meets_num hW hR k0 (by omega), meets_num hW hR k0 (by omega), decide_eq_true_eq, decide_eq_true_eq, (hR.2.1 k k0 (by omega)).2.2.2.2.1] at k2
    rcases k2.2 with h | h
    · exact Or.inl ⟨k, k0, by omega, h, k2.1⟩
    · exact Or.inr ⟨k, k0, by omega, h, k2.1⟩
  · intro h
    have : ∃ k, 0 ≤ k ∧ k < S.laid ∧ (numberAtF S x y = k ∨ numberAtF S x (y + 1) = k) ∧ S.crk k = 0 := by
      rcases h with ⟨k, a, b, c, d⟩ | ⟨k, a, b, c, d⟩
      · exact ⟨k, a, b, Or.inl c, d⟩
      · exact ⟨k, a, b, Or.inr c, d⟩
    obtain ⟨k, a, b, c, d⟩ := this
    refine ⟨k, a, by omega, ?_⟩
    rw [Bool.and_eq_true, Bool.or_eq_true, decide_eq_true_eq, meets_num hW hR a b, meets_num hW hR a b, decide_eq_true_eq, decide_eq_true_eq, (hR.2.1 k a b).2.2.2.2.1]
    exact ⟨d, c⟩
