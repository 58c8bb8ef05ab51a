/-! ===== the two roofs: sums, what comes in, all that is told ===== -/
theorem sumR_swap (f : Int → Int → Int) : ∀ (n m : Nat) (x y : Int), sumR (fun i => sumR (fun j => f i j) m y) n x = sumR (fun j => sumR (fun i => f i j) n x) m y := by
  intro n
  induction n with
  | zero =>
    intro m
    induction m with
    | zero => intro x y; rfl
    | succ m ih => intro x y; have := ih x (y + 1); simp only [sumR] at this ⊢; omega
  | succ n ih =>
    intro m x y
    have h1 := ih m (x + 1) y
    have h2 := sumR_add (fun j => f x j) (fun j => sumR (fun i => f i j) n (x + 1)) m y
    simp only [sumR] at h1 ⊢
    rw [h1, h2]
theorem sumR_app (f : Int → Int) (m : Nat) : ∀ (n : Nat) (x : Int), sumR f (n + m) x = sumR f n x + sumR f m (x + n) := by
  intro n
  induction n with
  | zero => intro x; simp [sumR]
  | succ n ih =>
    intro x
    have h1 := ih (x + 1)
    rw [show n + 1 + m = (n + m) + 1 by omega]
    simp only [sumR]
    rw [h1, show x + ((n + 1 : Nat) : Int) = x + 1 + (n : Int) by omega]
    omega
theorem sumR_shift (f : Int → Int) (c : Int) : ∀ (n : Nat) (x : Int), sumR (fun i => f (c + i)) n x = sumR f n (c + x) := by
  intro n
  induction n with
  | zero => intro x; rfl
  | succ n ih => intro x; have := ih (x + 1); simp only [sumR]; rw [this, show c + (x + 1) = c + x + 1 by omega]
theorem sumR_flat (f : Int → Int) : ∀ (m : Nat), sumR (fun y => sumR (fun x => f (12 * y + x)) 12 0) m 0 = sumR f (12 * m) 0 := by
  intro m
  induction m with
  | zero => rfl
  | succ m ih =>
    rw [sumR_last, ih, show 12 * (m + 1) = 12 * m + 12 by omega, sumR_app, Int.zero_add, sumR_shift f (12 * (m : Int)) 12 0]
    congr 2
    omega
theorem on_eq {S : RS} {M : SM} (hW : WF S) (hR : RelS S M) : S.there = onS M 0 := by
  have en : M.n = S.laid.toNat := by have := hR.1; omega
  rw [hW.2.2.2.1.1]
  unfold onS
  rw [en]
  refine sumR_congrN _ (fun j j0 j1 => ?_)
  rw [(hR.2.1 j j0 (by omega)).2.2.2.2.2]
  simp
theorem crk_eq {S : RS} {M : SM} (hR : RelS S M) : crkThF S = onS M 1 := by
  have en : M.n = S.laid.toNat := by have := hR.1; omega
  unfold onS crkThF
  rw [en]
  refine sumR_congrN _ (fun j j0 j1 => ?_)
  obtain ⟨-, -, -, -, e4, e5⟩ := hR.2.1 j j0 (by omega)
  rw [e4, e5]
  simp
theorem covAll_eq {S : RS} {M : SM} (hB : RB S) (hW : WF S) (hR : RelS S M) : covPlF S = covAllS M := by
  unfold covPlF covAllS
  rw [sumR_swap]
  refine sumR_congrN _ (fun x _ _ => sumR_congrN _ (fun y _ _ => ?_))
  rw [cov_eq hB hW hR]
theorem rot_eq {S : RS} {M : SM} (hR : RelS S M) : allRotF S = rotS M := by
  unfold allRotF rotS
  rw [sumR_swap, ← sumR_flat S.rot 8]
  refine sumR_congrN _ (fun y y0 y1 => sumR_congrN _ (fun x x0 x1 => ?_))
  rw [hR.2.2.1 x y x0 (by omega) y0 (by omega)]
theorem known_t {S : RS} (hB : RB S) {k : Int} (h0 : 0 ≤ k) (h1 : k < S.laid) : isKnownF S k = true := by
  have := hB.laid_r
  exact decide_eq_true (show 0 ≤ k ∧ k < S.laid ∧ k < 200 by omega)
theorem there_f {S : RS} {k : Int} (hon : ¬ S.onr k = 1) : isThereF S k = false := by
  unfold isThereF
  rw [decide_eq_false hon, Bool.and_false]
theorem told_eq {S : RS} {M : SM} (hB : RB S) (hW : WF S) (hR : RelS S M) {k : Int} (h0 : 0 ≤ k) (h1 : k < S.laid) (what : Int) : tellF S k what = toldS M k what := by
  obtain ⟨e0, e1, e2, e3, e4, e5⟩ := hR.2.1 k h0 h1
  unfold tellF toldS
  rw [known_t hB h0 h1, cond_true, e0, e1, e2, e3, e4, e5]
  by_cases hon : S.onr k = 1
  · rw [if_pos hon, if_pos hon, hold_eq hB hW hR h0 h1 hon, upon_eq hB hW hR h0 h1 hon]
  · have q1 : holdF S k = 0 := by unfold holdF; rw [there_f hon]; rfl
    have q2 : uponF S k = 0 := by unfold uponF; rw [there_f hon]; rfl
    rw [if_neg hon, if_neg hon, q1, q2]
theorem rt_eq {S : RS} {M : SM} (hR : RelS S M) {x y : Int} (hx : 0 ≤ x ∧ x ≤ 11) (hy : 0 ≤ y ∧ y ≤ 7) : rotAtF S x y = M.rt x y := by
  rw [hR.2.2.1 x y hx.1 hx.2 hy.1 hy.2]
  unfold rotAtF
  rw [if_pos (by omega)]
theorem same_of {S : RS} {M : SM} (hB : RB S) (hW : WF S) (hR : RelS S M) : SameF S M :=
  ⟨hR.1, fun k what h0 h1 _ _ => told_eq hB hW hR h0 (by rw [← hR.1]; exact h1) what, fun x y x0 x1 y0 y1 => ⟨(at_eq hW hR x y).symm, (cov_eq hB hW hR x y).symm, rt_eq hR ⟨x0, x1⟩ ⟨y0, y1⟩⟩,
    ⟨hR.2.2.2.1.symm, on_eq hW hR, crk_eq hR, covAll_eq hB hW hR, hR.2.2.2.2.symm, rot_eq hR⟩⟩
/-! what comes in -/
theorem colL_last (f : Int → Int) (rain x : Int) : ∀ (n : Nat) (row acc : Int), colL f rain x (n + 1) row acc = inF f rain (colL f rain x n row acc) x (row - n) := by
  intro n
  induction n with
  | zero => intro row acc; simp [colL]
  | succ n ih =>
    intro row acc
    have e : colL f rain x (n + 1 + 1) row acc = colL f rain x (n + 1) (row - 1) (inF f rain acc x row) := rfl
    rw [e, ih, show row - 1 - (n : Int) = row - ((n + 1 : Nat) : Int) by omega]
    rfl
theorem rdL_at {S : RS} {f : Int → Int} {x y : Int} (hx : 0 ≤ x ∧ x ≤ 11) (hy : 0 ≤ y ∧ y ≤ 7) : rdL S f 96 (12 * y + x) = bI (coveredF S x y) := by
  unfold rdL
  rw [if_pos (by omega), show (12 * y + x) % 12 = x by omega, show (12 * y + x) / 12 = y by omega]
theorem inF_at {g : Int → Int} {rain above x y : Int} {b : Bool} (hx : 0 ≤ x ∧ x ≤ 11) (hy : 0 ≤ y ∧ y ≤ 7) (hg : g (12 * y + x) = bI b) : inF g rain above x y = bif b then 0 else rain + Int.tdiv above 2 := by
  unfold inF
  rw [show isPlaceF x y = true from decide_eq_true (by omega), cond_true, hg]
  cases b <;> rfl
/-- what comes in, down a column, by any table of what is covered -/
def inD (c : Int → Bool) (rain : Int) : Nat → Int
  | 0 => bif c 7 then 0 else rain
  | d + 1 => bif c (7 - ((d + 1 : Nat) : Int)) then 0 else rain + Int.tdiv (inD c rain d) 2
theorem col_in {g : Int → Int} {rain x : Int} {c : Int → Bool} (hx : 0 ≤ x ∧ x ≤ 11) (hg : ∀ y, 0 ≤ y → y ≤ 7 → g (12 * y + x) = bI (c y)) : ∀ d : Nat, d ≤ 7 → colL g rain x (d + 1) 7 0 = inD c rain d := by
  intro d
  induction d with
  | zero =>
    intro _
    rw [colL_last, inF_at hx (by omega) (hg _ (by omega) (by omega))]
    simp [colL, inD]
  | succ d ih =>
    intro hd
    rw [colL_last, ih (by omega), inF_at hx (by omega) (hg _ (by omega) (by omega))]
    rfl
theorem comes_in {M : SM} {rain x : Int} : ∀ d, comesS M rain x d = inD (fun y => covS M x y) rain d := by
  intro d
  induction d with
  | zero => rfl
  | succ d ih => simp only [comesS, inD, ih]
theorem comes_eq {S : RS} {M : SM} (hB : RB S) (hW : WF S) (hR : RelS S M) {f : Int → Int} {rain x y : Int} (hx : 0 ≤ x ∧ x ≤ 11) (hy : 0 ≤ y ∧ y ≤ 7) : colL (rdL S f 96) rain x (8 - y).toNat 7 0 = comesS M rain x (7 - y).toNat := by
  rw [comes_in, show (8 - y).toNat = (7 - y).toNat + 1 by omega]
  exact col_in hx (fun y2 h0 h7 => by rw [rdL_at hx ⟨h0, h7⟩, cov_eq hB hW hR]) _ (by omega)
theorem inS_col (f : Int → Int) (rain x : Int) : ∀ (n : Nat) (row acc : Int), inS f rain x n row acc = sumR (fun i => colL f rain x (i + 1).toNat row acc) n 0 := by
  intro n
  induction n with
  | zero => intro row acc; rfl
  | succ n ih =>
    intro row acc
    have e : inS f rain x (n + 1) row acc = inF f rain acc x row + inS f rain x n (row - 1) (inF f rain acc x row) := rfl
    rw [e, ih]
    have e2 : sumR (fun i => colL f rain x (i + 1).toNat row acc) (n + 1) 0 = colL f rain x 1 row acc + sumR (fun i => colL f rain x (i + 1).toNat row acc) n 1 := rfl
    rw [e2]
    have e3 := sumR_shift (fun i => colL f rain x (i + 1).toNat row acc) 1 n 0
    rw [Int.add_zero] at e3
    rw [← e3]
    have e4 : sumR (fun i => colL f rain x (i + 1).toNat (row - 1) (inF f rain acc x row)) n 0 = sumR (fun i => colL f rain x (1 + i + 1).toNat row acc) n 0 := by
      refine sumR_congrN _ (fun j j0 j1 => ?_)
      rw [show (1 + j + 1).toNat = (j + 1).toNat + 1 by omega]
      rfl
    rw [e4]
    rfl
/-- all that comes in by any table -/
theorem inAll_in {g : Int → Int} {rain : Int} {c : Int → Int → Bool} (hg : ∀ x y, 0 ≤ x → x ≤ 11 → 0 ≤ y → y ≤ 7 → g (12 * y + x) = bI (c x y)) : inAllF g rain = sumR (fun x => sumR (fun d => inD (c x) rain d.toNat) 8 0) 12 0 := by
  unfold inAllF
  refine sumR_congrN _ (fun x x0 x1 => ?_)
  rw [inS_col]
  refine sumR_congrN _ (fun d d0 d1 => ?_)
  rw [show (d + 1).toNat = d.toNat + 1 by omega]
  exact col_in ⟨x0, by omega⟩ (fun y y0 y1 => hg x y x0 (by omega) y0 y1) _ (by omega)
def leakS (M : SM) (rain : Int) : Int := sumR (fun x => sumR (fun d => comesS M rain x d.toNat) 8 0) 12 0
theorem leak_eq {S : RS} {M : SM} (hB : RB S) (hW : WF S) (hR : RelS S M) {f : Int → Int} {rain : Int} : inAllF (rdL S f 96) rain = leakS M rain := by
  rw [inAll_in (c := fun x y => covS M x y) (fun x y x0 x1 y0 y1 => by rw [rdL_at ⟨x0, x1⟩ ⟨y0, y1⟩, cov_eq hB hW hR])]
  unfold leakS
  refine sumR_congrN _ (fun x _ _ => sumR_congrN _ (fun d _ _ => ?_))
  rw [comes_in]
theorem sumR_rev (f : Int → Int) : ∀ (n : Nat), sumR (fun i => f i) n 0 = sumR (fun i => f ((n : Int) - 1 - i)) n 0 := by
  intro n
  induction n with
  | zero => rfl
  | succ n ih =>
    rw [sumR_last]
    have e2 : sumR (fun i => f (((n + 1 : Nat) : Int) - 1 - i)) (n + 1) 0 = f (((n + 1 : Nat) : Int) - 1 - 0) + sumR (fun i => f (((n + 1 : Nat) : Int) - 1 - i)) n 1 := rfl
    rw [e2, ih]
    have e3 := sumR_shift (fun i => f (((n + 1 : Nat) : Int) - 1 - i)) 1 n 0
    rw [Int.add_zero] at e3
    rw [← e3]
    have e4 : sumR (fun i => f (((n + 1 : Nat) : Int) - 1 - (1 + i))) n 0 = sumR (fun i => f ((n : Int) - 1 - i)) n 0 := by
      refine sumR_congrN _ (fun j _ _ => ?_)
      congr 1
      omega
    rw [e4, show 0 + (n : Int) = ((n + 1 : Nat) : Int) - 1 - 0 by omega]
    omega
/-- the same sum, place by place -/
theorem leak_pl (M : SM) (rain : Int) : sumR (fun k => comesS M rain (k % 12) (7 - k / 12).toNat) 96 0 = leakS M rain := by
  have h1 := sumR_flat (fun k => comesS M rain (k % 12) (7 - k / 12).toNat) 8
  rw [show 12 * 8 = 96 from rfl] at h1
  rw [← h1]
  unfold leakS
  rw [sumR_swap (fun x d => comesS M rain x d.toNat) 12 8 0 0]
  rw [sumR_rev (fun d => sumR (fun x => comesS M rain x d.toNat) 12 0) 8]
  refine sumR_congrN _ (fun y y0 y1 => sumR_congrN _ (fun x x0 x1 => ?_))
  rw [show (12 * y + x) % 12 = x by omega, show (12 * y + x) / 12 = y by omega]
  congr 2
theorem cov_pl (M : SM) : sumR (fun k => bI (covS M (k % 12) (k / 12))) 96 0 = covAllS M := by
  have h1 := sumR_flat (fun k => bI (covS M (k % 12) (k / 12))) 8
  rw [show 12 * 8 = 96 from rfl] at h1
  rw [← h1]
  unfold covAllS
  rw [sumR_swap (fun x y => bI (covS M x y)) 12 8 0 0]
  refine sumR_congrN _ (fun y y0 y1 => sumR_congrN _ (fun x x0 x1 => ?_))
  rw [show (12 * y + x) % 12 = x by omega, show (12 * y + x) / 12 = y by omega]
