/-! ===== the two roofs: a day goes by over both ===== -/
theorem offG_s {s : Int → Int → Int} {g : Int → Bool} {x : Nat} (hg : g x = true) : offG g (x + 1) s = ab_uf (offG g x s) (x : Int) (ab_uf (s x) 5 0) := congrArg (fun q : SM => q.2.1) (off_s (M := (0, s, (fun _ _ => 0), (fun _ _ => 0), 0, 0)) (x := x) hg)
theorem offG_n {s : Int → Int → Int} {g : Int → Bool} {x : Nat} (hg : g x = false) : offG g (x + 1) s = offG g x s := congrArg (fun q : SM => q.2.1) (off_n (M := (0, s, (fun _ _ => 0), (fun _ _ => 0), 0, 0)) (x := x) hg)
theorem offG_at {s : Int → Int → Int} {g : Int → Bool} {x : Nat} : offG g x s (x : Int) = s x := by
  simp only [offG]
  rw [if_neg (by omega)]
theorem offG_0 {s : Int → Int → Int} {g : Int → Bool} : offG g 0 s = s := by
  funext k
  simp only [offG]
  rw [if_neg (by omega)]
theorem lifts_eq {S : RS} {M : SM} (hg : Good S M) {k : Int} (h0 : 0 ≤ k) (h1 : k < S.laid) (force right : Int) : liftsF S force right k = goesS M force right k := by
  obtain ⟨hB, hW, hR⟩ := hg
  have e5 := (hR.2.1 k h0 h1).2.2.2.2.2
  unfold liftsF goesS
  rw [e5]
  by_cases hon : S.onr k = 1
  · rw [hold_eq hB hW hR h0 h1 hon, lift_eq hB hW hR h0 h1 hon]
  · rw [decide_eq_false hon, Bool.false_and, Bool.false_and]
theorem many_eq {S : RS} {M : SM} (hg : Good S M) (force right : Int) : manyF S force right = sumR (fun k => bI (goesS M force right k)) M.n 0 := by
  have en : M.n = S.laid.toNat := by have := hg.2.2.1; omega
  unfold manyF
  rw [en]
  refine sumR_congrN _ (fun j j0 j1 => ?_)
  rw [lifts_eq hg j0 (by omega)]
theorem good_remL {M : SM} {g : Int → Bool} (hgo : ∀ k, g k = true → M.sl k 5 = 1) : ∀ (m x : Nat) (S : RS), (x : Int) + m = S.laid → (∀ i, 0 ≤ i → i < S.laid → S.goe i = bI (g i)) → Good S (M.s_sl (offG g x M.sl)) →
    Good (remL m x S) (M.s_sl (offG g (x + m) M.sl)) ∧ (remL m x S).blown = S.blown := by
  intro m
  induction m with
  | zero => intro x S _ _ h; exact ⟨h, rfl⟩
  | succ m ih =>
    intro x S hx hgoe h
    simp only [remL]
    have e1 := hgoe x (by omega) (by omega)
    have ex : ((x : Int) + 1) = ((x + 1 : Nat) : Int) := by omega
    cases hb : g x
    · rw [hb, bI_f] at e1
      rw [if_pos e1, ex, show x + (m + 1) = x + 1 + m by omega]
      exact ih (x + 1) S (by omega) hgoe (by rw [offG_n hb]; exact h)
    · rw [hb, bI_t] at e1
      rw [if_neg (by omega), ex, show x + (m + 1) = x + 1 + m by omega]
      have hr := (h.2.2.2.1 x (by omega) (by omega)).2.2.2.2.2
      have hat : (M.s_sl (offG g x M.sl)).sl x = M.sl x := offG_at
      rw [hat, hgo _ hb] at hr
      obtain ⟨g1, g2, g3, g4, g5⟩ := good_remove h (s := x) (by omega) (by omega) hr.symm
      have e2 : delS (M.s_sl (offG g x M.sl)) x = M.s_sl (offG g (x + 1) M.sl) := by
        unfold delS
        rw [hat, offG_s hb]
      rw [e2] at g1
      obtain ⟨i1, i2⟩ := ih (x + 1) (removeF S x) (by rw [g3]; omega) (by rw [g3, g5]; exact hgoe) g1
      exact ⟨i1, i2.trans g4⟩
theorem good_round {S : RS} {M : SM} (hg : Good S M) (force right : Int) : Good ((remF (markF S force right)).s_blown ((markF S force right).blown + ((markF S force right).there - (remF (markF S force right)).there))) (offS M (goesS M force right) M.n) ∧ (remF (markF S force right)).there = S.there - sumR (fun k => bI (goesS M force right k)) M.n 0 := by
  have hgo := goes_on (M := M) (force := force) (right := right)
  have hm := good_mark hg force right
  have en : (M.n : Int) = S.laid := hg.2.2.1
  have e0 : M.s_sl (offG (goesS M force right) 0 M.sl) = M := by rw [offG_0]
  obtain ⟨r1, r2⟩ := good_remL (M := M) (g := goesS M force right) hgo M.n 0 (markF S force right) (by show ((0 : Nat) : Int) + (M.n : Int) = S.laid; omega) (fun i i0 i1 => by
    have i1' : i < S.laid := i1
    have : markL S force right S.laid i = bI (liftsF S force right i) := by unfold markL; rw [if_pos ⟨i0, i1'⟩]
    show markL S force right S.laid i = _
    rw [this, lifts_eq hg i0 i1']) (by rw [e0]; exact hm)
  have er : remF (markF S force right) = remL M.n ((0 : Nat) : Int) (markF S force right) := by
    unfold remF
    have : (markF S force right).laid.toNat = M.n := by show S.laid.toNat = M.n; omega
    rw [this]; rfl
  rw [er]
  rw [Nat.zero_add] at r1
  generalize hA : remL M.n ((0 : Nat) : Int) (markF S force right) = A at *
  have o1 := off_on hgo
  have o2 := on_eq hg.2.1 hg.2.2
  have o3 := on_eq r1.2.1 r1.2.2
  have o4 : onS (M.s_sl (offG (goesS M force right) M.n M.sl)) 0 = onS (offS M (goesS M force right) M.n) 0 := rfl
  have ht : A.there = S.there - sumR (fun k => bI (goesS M force right k)) M.n 0 := by omega
  have hr9 := sumR_rb (g := goesS M force right) M.n 0
  obtain ⟨hB, hW, hR⟩ := r1
  have e1 : (markF S force right).blown = S.blown := rfl
  have e2 : (markF S force right).there = S.there := rfl
  rw [e1, e2]
  rw [e1] at r2
  have hl := hR.1
  refine ⟨⟨hB, ⟨hW.1, hW.2.1, hW.2.2.1, hW.2.2.2.1, ?_⟩, hR.1, hR.2.1, hR.2.2.1, hR.2.2.2.1, ?_⟩, ht⟩
  · have w5 := hW.2.2.2.2
    show 0 ≤ S.blown + (S.there - A.there) ∧ S.blown + (S.there - A.there) + A.there ≤ A.laid
    have w6 := hg.2.1.2.2.2.2
    have hl2 : (M.n : Int) = A.laid := hl
    omega
  · show M.tk + sumR (fun k => bI (goesS M force right k)) M.n 0 = S.blown + (S.there - A.there)
    have := hg.2.2.2.2.2.2
    omega
theorem good_blowL (force right : Int) : ∀ (n : Nat) (rd : Int) (S : RS) (M : SM), Good S M → S.there ≤ n → Good (blowL force right n rd S).2 (stormL force right (n + 1) M) := by
  intro n
  induction n with
  | zero =>
    intro rd S M hg ht
    have hno : anyR (goesS M force right) M.n 0 = false := by
      cases h : anyR (goesS M force right) M.n 0 with
      | false => rfl
      | true =>
        have p1 := sumR_any _ _ h
        have o1 := off_on (goes_on (M := M) (force := force) (right := right))
        have o2 := on_eq hg.2.1 hg.2.2
        have o3 : 0 ≤ onS (offS M (goesS M force right) M.n) 0 := (sumR_rb _ _).1
        omega
    simp only [stormL, hno, cond_false, blowL]
    exact hg
  | succ n ih =>
    intro rd S M hg ht
    have hm := many_eq hg force right
    have e : stormL force right (n + 1 + 1) M = bif anyR (goesS M force right) M.n 0 then stormL force right (n + 1) (offS M (goesS M force right) M.n) else M := rfl
    rw [e]
    simp only [blowL]
    cases h : anyR (goesS M force right) M.n 0
    · rw [if_pos (by rw [hm]; exact sumR_none _ _ h)]
      exact good_mark hg force right
    · have p1 := sumR_any _ _ h
      rw [if_neg (by omega)]
      obtain ⟨g1, g2⟩ := good_round hg force right
      refine ih _ _ _ g1 ?_
      show (remF (markF S force right)).there ≤ (n : Int)
      omega
theorem good_blow {S : RS} {M : SM} (hg : Good S M) (force right : Int) : Good (blowF S force right).2 (stormS M force right) := by
  unfold blowF stormS
  split
  · exact hg
  · exact good_blowL force right 60 1 S M hg hg.2.1.2.2.2.1.2
theorem bare_num {S : RS} {M : SM} (hg : Good S M) (x y : Int) : (!anyR (fun j => meetsF (M.sl j) y x 1) M.n 0) = decide (numberAtF S x y = -1) := by
  have en := hg.2.2.1
  apply bool_iff
  rw [decide_eq_true_eq, Bool.not_eq_true', ← Bool.not_eq_true, anyR_iff]
  constructor
  · intro h
    by_cases e : numberAtF S x y = -1
    · exact e
    · have a := num_lt hg.2.1 (x := x) (y := y) rfl e
      exact absurd ⟨numberAtF S x y, a.1, by omega, by rw [meets_num hg.2.1 hg.2.2 a.1 a.2]; exact decide_eq_true rfl⟩ h
  · rintro h ⟨j, j0, j1, j2⟩
    rw [meets_num hg.2.1 hg.2.2 j0 (by omega)] at j2
    have := of_decide_eq_true j2
    omega
theorem crks_eq {S : RS} {M : SM} (hg : Good S M) {k : Int} (h0 : 0 ≤ k) (h1 : k < S.laid) (hail : Int) : crksF S hail k = crkG M hail k := by
  obtain ⟨e0, e1, e2, e3, e4, e5⟩ := hg.2.2.2.1 k h0 h1
  have hon := hg.1.onr_r k
  have e : bareS M (M.sl k) = fun x => decide (numberAtF S x (S.row k + 1) = -1) := by
    funext x
    unfold bareS
    rw [e0]
    exact bare_num hg x (S.row k + 1)
  unfold crksF crkG bareF
  rw [known_t hg.1 h0 h1, Bool.true_and, e, e1, e2, e3, e5, ← Bool.and_assoc]
  congr 1
  apply bool_iff
  rw [Bool.and_eq_true, decide_eq_true_eq, decide_eq_true_eq, decide_eq_true_eq]
  omega
theorem good_crack {S : RS} {M : SM} (hg : Good S M) (hail : Int) : Good (crackF S hail) (crkS M hail) := by
  have hc := fun k h0 h1 => crks_eq hg (k := k) h0 h1 hail
  obtain ⟨hB, hW, hR⟩ := hg
  refine ⟨hB.s_crk (fun i => ?_), hW, hR.1, fun k k0 k1 => ?_, hR.2.2.1, hR.2.2.2.1, hR.2.2.2.2⟩
  · simp only [crkL]
    split
    · cases crksF S hail i
      · exact hB.crk_r i
      · exact Or.inr rfl
    · exact hB.crk_r i
  · have hr := hR.2.1 k k0 k1
    have k1' : k < S.laid := k1
    have en := hR.1
    show crkF M.sl (crkG M hail) M.n k 0 = S.row k ∧ crkF M.sl (crkG M hail) M.n k 1 = S.frm k ∧ crkF M.sl (crkG M hail) M.n k 2 = S.wid k ∧ crkF M.sl (crkG M hail) M.n k 3 = S.nai k ∧ crkF M.sl (crkG M hail) M.n k 4 = crkL S hail S.laid k ∧ crkF M.sl (crkG M hail) M.n k 5 = S.onr k
    have e : crkL S hail S.laid k = bif crkG M hail k then 1 else S.crk k := by
      unfold crkL
      rw [if_pos ⟨k0, k1'⟩, hc k k0 k1']
    rw [e]
    cases hb : crkG M hail k
    · have e9 : crkF M.sl (crkG M hail) M.n k = M.sl k := by simp only [crkF]; rw [if_neg]; rintro ⟨-, -, q⟩; rw [hb] at q; cases q
      rw [e9]; exact hr
    · have e9 : crkF M.sl (crkG M hail) M.n k = ab_uf (M.sl k) 4 1 := by simp only [crkF]; rw [if_pos ⟨k0, by omega, hb⟩]
      rw [e9]
      exact ⟨hr.1, hr.2.1, hr.2.2.1, hr.2.2.2.1, rfl, hr.2.2.2.2.2⟩
/-! rot -/
def upR (r c : Int) : Int := if c < 6 then r else if 9 < r + 1 then 9 else r + 1
theorem upR_r {r c : Int} (h : 0 ≤ r ∧ r ≤ 9) : 0 ≤ upR r c ∧ upR r c ≤ 9 := by
  unfold upR
  repeat' split
  all_goals omega
theorem rtCol_at {g : Int → Int} {rain x : Int} (hx : 0 ≤ x ∧ x ≤ 11) : ∀ (n : Nat) (S : RS) (row acc : Int), n ≤ 8 → row = (n : Int) - 1 → acc = colL g rain x (8 - n) 7 0 → RB S → ∃ f, rtCol g rain x n row acc S = S.s_rot f ∧ (∀ i, 0 ≤ f i ∧ f i ≤ 9) ∧
    ∀ i j, 0 ≤ i → i ≤ 11 → 0 ≤ j → j ≤ 7 → f (12 * j + i) = if i = x ∧ j < (n : Int) then upR (S.rot (12 * j + i)) (colL g rain x (8 - j).toNat 7 0) else S.rot (12 * j + i) := by
  intro n
  induction n with
  | zero => intro S row acc _ _ _ hB; exact ⟨S.rot, rfl, hB.rot_r, fun i j _ _ j0 _ => by rw [if_neg (by omega)]⟩
  | succ n ih =>
    intro S row acc hn hrow hacc hB
    have e1 : inF g rain acc x row = colL g rain x (8 - n) 7 0 := by
      rw [show 8 - n = (8 - (n + 1)) + 1 by omega, colL_last, hacc, hrow]
      congr 1
      omega
    have hpl : isPlaceF x row = true := decide_eq_true (by omega)
    have hra : rotAtF S x row = S.rot (12 * row + x) := by unfold rotAtF; rw [if_pos (by omega)]
    have h1 : ∃ f1, rtOne g rain x row acc S = S.s_rot f1 ∧ (∀ i, 0 ≤ f1 i ∧ f1 i ≤ 9) ∧ ∀ i j, 0 ≤ i → i ≤ 11 → 0 ≤ j → j ≤ 7 → f1 (12 * j + i) = if i = x ∧ j = row then upR (S.rot (12 * j + i)) (colL g rain x (8 - n) 7 0) else S.rot (12 * j + i) := by
      unfold rtOne
      rw [e1]
      by_cases h6 : colL g rain x (8 - n) 7 0 < 6
      · rw [if_pos h6]
        refine ⟨S.rot, rfl, hB.rot_r, fun i j _ _ _ _ => ?_⟩
        split
        · unfold upR; rw [if_pos h6]
        · rfl
      · rw [if_neg h6, hra]
        refine ⟨ab_uf S.rot (12 * row + x) (upR (S.rot (12 * row + x)) (colL g rain x (8 - n) 7 0)), ?_, uf_all (P := fun q => 0 ≤ q ∧ q ≤ 9) hB.rot_r (upR_r (hB.rot_r _)), fun i j i0 i1 j0 j1 => ?_⟩
        · unfold setRotF upR
          rw [hpl, cond_true, if_neg h6]
        · simp only [ab_uf]
          by_cases h2 : i = x ∧ j = row
          · rw [if_pos h2, if_pos (by omega), h2.1, h2.2]
          · rw [if_neg h2, if_neg (by omega)]
    obtain ⟨f1, a1, a2, a3⟩ := h1
    simp only [rtCol]
    rw [a1, e1]
    obtain ⟨f2, b1, b2, b3⟩ := ih (S.s_rot f1) (row - 1) (colL g rain x (8 - n) 7 0) (by omega) (by omega) rfl (hB.s_rot a2)
    refine ⟨f2, b1, b2, fun i j i0 i1 j0 j1 => ?_⟩
    rw [b3 i j i0 i1 j0 j1]
    show (if i = x ∧ j < (n : Int) then upR (f1 (12 * j + i)) (colL g rain x (8 - j).toNat 7 0) else f1 (12 * j + i)) = _
    rw [a3 i j i0 i1 j0 j1]
    by_cases h2 : i = x ∧ j < (n : Int)
    · rw [if_pos h2, if_neg (by omega), if_pos (by omega)]
    · rw [if_neg h2]
      by_cases h3 : i = x ∧ j = row
      · rw [if_pos h3, if_pos (by omega), show 8 - n = (8 - j).toNat by omega]
      · rw [if_neg h3, if_neg (by omega)]
theorem rtL_at {g : Int → Int} {rain : Int} : ∀ (m : Nat) (x : Int) (S : RS), 0 ≤ x → x + m ≤ 12 → RB S → ∃ f, rtL g rain m x S = S.s_rot f ∧ (∀ i, 0 ≤ f i ∧ f i ≤ 9) ∧
    ∀ i j, 0 ≤ i → i ≤ 11 → 0 ≤ j → j ≤ 7 → f (12 * j + i) = if x ≤ i ∧ i < x + m then upR (S.rot (12 * j + i)) (colL g rain i (8 - j).toNat 7 0) else S.rot (12 * j + i) := by
  intro m
  induction m with
  | zero => intro x S _ _ hB; exact ⟨S.rot, rfl, hB.rot_r, fun i j _ _ _ _ => by rw [if_neg (by omega)]⟩
  | succ m ih =>
    intro x S h0 h1 hB
    obtain ⟨f1, a1, a2, a3⟩ := rtCol_at (g := g) (rain := rain) (x := x) (by omega) 8 S 7 0 (by omega) rfl rfl hB
    simp only [rtL]
    rw [a1]
    obtain ⟨f2, b1, b2, b3⟩ := ih (x + 1) (S.s_rot f1) (by omega) (by omega) (hB.s_rot a2)
    refine ⟨f2, b1, b2, fun i j i0 i1 j0 j1 => ?_⟩
    rw [b3 i j i0 i1 j0 j1]
    show (if x + 1 ≤ i ∧ i < x + 1 + m then upR (f1 (12 * j + i)) (colL g rain i (8 - j).toNat 7 0) else f1 (12 * j + i)) = _
    rw [a3 i j i0 i1 j0 j1]
    by_cases h2 : x + 1 ≤ i ∧ i < x + 1 + m
    · rw [if_pos h2, if_neg (by omega), if_pos (by omega)]
    · rw [if_neg h2]
      by_cases h3 : i = x ∧ j < ((8 : Nat) : Int)
      · rw [if_pos h3, if_pos (by omega), h3.1]
      · rw [if_neg h3, if_neg (by omega)]
theorem good_rt {S : RS} {M : SM} (hg : Good S M) (f : Int → Int) (rain : Int) : Good (rtF S (rdL S f 96) rain) (rotU M rain) := by
  obtain ⟨hB, hW, hR⟩ := hg
  obtain ⟨f1, a1, a2, a3⟩ := rtL_at (g := rdL S f 96) (rain := rain) 12 0 S (by omega) (by omega) hB
  unfold rtF
  rw [a1]
  refine ⟨hB.s_rot a2, hW, hR.1, hR.2.1, fun x y x0 x1 y0 y1 => ?_, hR.2.2.2.1, hR.2.2.2.2⟩
  show rotP M rain 96 x y = f1 (12 * y + x)
  rw [a3 x y x0 x1 y0 y1, if_pos (by omega), comes_eq hB hW hR ⟨x0, x1⟩ ⟨y0, y1⟩, ← hR.2.2.1 x y x0 x1 y0 y1]
  simp only [rotP]
  rw [if_pos (by omega)]
  have := hR.2.2.1 x y x0 x1 y0 y1
  have hr := hB.rot_r (12 * y + x)
  unfold rotG upR
  by_cases h : 5 < comesS M rain x (7 - y).toNat
  · rw [if_neg (show ¬ comesS M rain x (7 - y).toNat < 6 by omega)]
    by_cases h9 : M.rt x y < 9
    · rw [if_pos ⟨h, h9⟩, if_neg (by omega)]
    · rw [if_neg (fun q => h9 q.2), if_pos (by omega)]; omega
  · rw [if_neg (fun q => h q.1), if_pos (by omega)]
/-- the table of days in both -/
def TabR (T : TS) (M : SM) : Prop := ∀ k, 0 ≤ k → k ≤ 6 → M.dy k 0 = T.1 k ∧ M.dy k 1 = T.2.1 k ∧ M.dy k 2 = T.2.2.1 k ∧ M.dy k 3 = T.2.2.2 k
theorem day_eq {T : TS} {M : SM} (h : TabR T M) (d : Int) : dayF T.1 (d % 7) = M.dy (d % 7) 0 ∧ dayF T.2.1 (d % 7) = M.dy (d % 7) 1 ∧ dayF T.2.2.1 (d % 7) = M.dy (d % 7) 2 ∧ dayF T.2.2.2 (d % 7) = M.dy (d % 7) 3 := by
  obtain ⟨a, b, c, e⟩ := h (d % 7) (by omega) (by omega)
  unfold dayF
  rw [show isDayF (d % 7) = true from decide_eq_true (by omega), a, b, c, e]
  exact ⟨rfl, rfl, rfl, rfl⟩
theorem good_pass {S : RS} {M : SM} (hg : Good S M) {T : TS} (hT : TabR T M) (f : Int → Int) (hd : S.day < 1000000) : Good (goL T 1 (f, S)).2 (passS M) := by
  have hday : M.day = S.day := hg.2.2.2.2.2.1
  obtain ⟨t0, t1, t2, t3⟩ := day_eq hT S.day
  have e : (goL T 1 (f, S)).2 = (goB T (f, S)).s_day ((goB T (f, S)).day + 1) := rfl
  rw [e]
  have g1 : Good (goA T S) (crkS (stormS M (M.dy (S.day % 7) 0) (M.dy (S.day % 7) 1)) (M.dy (S.day % 7) 2)) := by
    unfold goA
    rw [t0, t1, t2]
    exact good_crack (good_blow hg _ _) _
  have g2 : Good (goB T (f, S)) (rotU (crkS (stormS M (M.dy (S.day % 7) 0) (M.dy (S.day % 7) 1)) (M.dy (S.day % 7) 2)) (M.dy (S.day % 7) 3)) := by
    unfold goB
    rw [t3]
    exact good_rt g1 f _
  have ed : (goB T (f, S)).day = S.day := goB_day T (f, S)
  have hr := hg.1.day_r
  have ep : passS M = (rotU (crkS (stormS M (M.dy (S.day % 7) 0) (M.dy (S.day % 7) 1)) (M.dy (S.day % 7) 2)) (M.dy (S.day % 7) 3)).s_day ((rotU (crkS (stormS M (M.dy (S.day % 7) 0) (M.dy (S.day % 7) 1)) (M.dy (S.day % 7) 2)) (M.dy (S.day % 7) 3)).day + 1) := by
    simp only [passS]
    rw [hday]
  rw [ep]
  obtain ⟨hB, hW, hR⟩ := g2
  exact ⟨hB.s_day (by omega), hW, hR.1, hR.2.1, hR.2.2.1, by show _ + 1 = _ + 1; rw [hR.2.2.2.1], hR.2.2.2.2⟩
