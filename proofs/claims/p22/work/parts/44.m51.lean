/-! ===== the two roofs: what keeps them alike ===== -/
def Good (S : RS) (M : SM) : Prop := RB S ∧ WF S ∧ RelS S M
/-- the same where it counts -/
def EqR (S S2 : RS) : Prop := (∀ i, 0 ≤ i → i < 96 → S2.num i = S.num i ∧ S2.rot i = S.rot i) ∧ (∀ s, 0 ≤ s → s < 200 → S2.row s = S.row s ∧ S2.frm s = S.frm s ∧ S2.wid s = S.wid s ∧ S2.nai s = S.nai s ∧ S2.crk s = S.crk s ∧ S2.onr s = S.onr s) ∧ S2.day = S.day ∧ S2.laid = S.laid ∧ S2.there = S.there ∧ S2.blown = S.blown
theorem num_eqR {S S2 : RS} (h : EqR S S2) (x y : Int) : numberAtF S2 x y = numberAtF S x y := by
  unfold numberAtF
  split
  · exact (h.1 _ (by omega) (by omega)).1
  · rfl
theorem good_eqR {S S2 : RS} {M : SM} (h : EqR S S2) (hB2 : RB S2) (hg : Good S M) : Good S2 M := by
  obtain ⟨hB, hW, hR⟩ := hg
  obtain ⟨q1, q2, q3, q4, q5, q6⟩ := id h
  have hl := hB.laid_r
  have at2 : ∀ s x y, atP S2 s x y ↔ atP S s x y := by
    intro s x y
    unfold atP
    rw [q4]
    constructor
    · rintro ⟨⟨a, b, c⟩, d⟩
      obtain ⟨e0, e1, e2, e3, e4, e5⟩ := q2 s a (by omega)
      rw [e0, e1, e2] at d; rw [e5] at c
      exact ⟨⟨a, b, c⟩, d⟩
    · rintro ⟨⟨a, b, c⟩, d⟩
      obtain ⟨e0, e1, e2, e3, e4, e5⟩ := q2 s a (by omega)
      rw [e0, e1, e2, e5]
      exact ⟨⟨a, b, c⟩, d⟩
  refine ⟨hB2, ⟨fun s s0 s1 => ?_, fun s x y hs => ?_, fun x y => ?_, ⟨?_, by rw [q5]; exact hW.2.2.2.1.2⟩, by rw [q6, q5, q4]; exact hW.2.2.2.2⟩, by rw [q4]; exact hR.1, fun k k0 k1 => ?_, fun x y x0 x1 y0 y1 => ?_, by rw [q3]; exact hR.2.2.2.1, by rw [q6]; exact hR.2.2.2.2⟩
  · obtain ⟨-, -, e2, e3, -, -⟩ := q2 s s0 (by omega)
    rw [e2, e3]; exact hW.1 s s0 (by omega)
  · rw [num_eqR h]; exact hW.2.1 s x y ((at2 s x y).mp hs)
  · rw [num_eqR h, at2]; exact hW.2.2.1 x y
  · rw [q5, q4, hW.2.2.2.1.1]
    refine sumR_congrN _ (fun j j0 j1 => ?_)
    rw [(q2 j j0 (by omega)).2.2.2.2.2]
  · obtain ⟨e0, e1, e2, e3, e4, e5⟩ := q2 k k0 (by omega)
    rw [e0, e1, e2, e3, e4, e5]
    exact hR.2.1 k k0 (by omega)
  · rw [(q1 _ (by omega) (by omega)).2]; exact hR.2.2.1 x y x0 x1 y0 y1
theorem eqR_mark (S : RS) (force right : Int) : EqR S (markF S force right) := ⟨fun _ _ _ => ⟨rfl, rfl⟩, fun _ _ _ => ⟨rfl, rfl, rfl, rfl, rfl, rfl⟩, rfl, rfl, rfl, rfl⟩
theorem eqR_goe (S : RS) (g : Int → Int) : EqR S (S.s_goe g) := ⟨fun _ _ _ => ⟨rfl, rfl⟩, fun _ _ _ => ⟨rfl, rfl, rfl, rfl, rfl, rfl⟩, rfl, rfl, rfl, rfl⟩
theorem eqR_cp (O S : RS) : EqR S (cpF O S) := by
  refine ⟨fun i h0 h1 => ?_, fun s h0 h1 => ?_, rfl, rfl, rfl, rfl⟩
  · exact ⟨if_pos ⟨h0, h1⟩, if_pos ⟨h0, h1⟩⟩
  · exact ⟨if_pos ⟨h0, h1⟩, if_pos ⟨h0, h1⟩, if_pos ⟨h0, h1⟩, if_pos ⟨h0, h1⟩, if_pos ⟨h0, h1⟩, if_pos ⟨h0, h1⟩⟩
theorem markL_01 {S : RS} (hB : RB S) (force right x : Int) : ∀ i, markL S force right x i = 0 ∨ markL S force right x i = 1 := by
  intro i
  unfold markL
  split
  · cases liftsF S force right i
    · exact Or.inl rfl
    · exact Or.inr rfl
  · exact hB.goe_r i
theorem good_mark {S : RS} {M : SM} (hg : Good S M) (force right : Int) : Good (markF S force right) M := good_eqR (eqR_mark S force right) (hg.1.s_goe (markL_01 hg.1 force right S.laid)) hg
theorem good_cp {S : RS} {M : SM} (hg : Good S M) {O : RS} (hO : RB O) : Good (cpF O S) M := good_eqR (eqR_cp O S) (cpS_r hO hg.1 96 200) hg
/-- numbers in a span of a row -/
theorem setNumL_at {row v : Int} (hr : 0 ≤ row ∧ row < 8) {x' y' : Int} (hx' : 0 ≤ x' ∧ x' < 12) (hy' : 0 ≤ y' ∧ y' < 8) : ∀ (n : Nat) (x : Int) (f : Int → Int), 0 ≤ x → x + n ≤ 12 → setNumL row v n x f (12 * y' + x') = if y' = row ∧ x ≤ x' ∧ x' < x + n then v else f (12 * y' + x') := by
  intro n
  induction n with
  | zero => intro x f h0 h1; rw [if_neg (by omega)]; rfl
  | succ n ih =>
    intro x f h0 h1
    simp only [setNumL]
    rw [ih (x + 1) _ (by omega) (by omega), show isPlaceF x row = true from decide_eq_true (by omega), cond_true]
    by_cases h2 : y' = row ∧ x + 1 ≤ x' ∧ x' < x + 1 + n
    · rw [if_pos h2, if_pos (by omega)]
    · rw [if_neg h2]
      simp only [ab_uf]
      by_cases h3 : 12 * y' + x' = 12 * row + x
      · rw [if_pos h3, if_pos (by omega)]
      · rw [if_neg h3, if_neg (by omega)]
theorem num_set {S : RS} {f : Int → Int} {row from9 wide v : Int} (hr : 0 ≤ row ∧ row < 8) (hf : 0 ≤ from9) (hw : 0 ≤ wide) (hfw : from9 + wide ≤ 12) (hS : S.num = setNumL row v wide.toNat from9 f) (x y : Int) :
    numberAtF S x y = if y = row ∧ from9 ≤ x ∧ x < from9 + wide then v else (if 0 ≤ x ∧ x < 12 ∧ 0 ≤ y ∧ y < 8 then f (12 * y + x) else -1) := by
  unfold numberAtF
  by_cases hb : 0 ≤ x ∧ x < 12 ∧ 0 ≤ y ∧ y < 8
  · rw [if_pos hb, if_pos hb, hS, setNumL_at hr (by omega) (by omega) _ _ _ hf (by omega)]
    by_cases h2 : y = row ∧ from9 ≤ x ∧ x < from9 + wide
    · rw [if_pos h2, if_pos (by omega)]
    · rw [if_neg h2, if_neg (by omega)]
  · rw [if_neg hb, if_neg hb, if_neg (by omega)]
theorem good_add {S : RS} {M : SM} (hg : Good S M) {row from9 wide v : Int} (h1 : 0 ≤ row ∧ row ≤ 7) (h2 : 0 ≤ from9 ∧ 1 ≤ wide ∧ wide ≤ 4 ∧ from9 + wide ≤ 12) (h3 : 1 ≤ v ∧ v ≤ 3) (hl : S.laid < 200) (ht : S.there < 60) (hfr : isFreeF S row from9 wide = true) : Good (addF S row from9 wide v) (addS M row from9 wide v) := by
  obtain ⟨hB, hW, hR⟩ := hg
  have hl0 := hB.laid_r
  have hfree : ∀ x, from9 ≤ x → x < from9 + wide → numberAtF S x row = -1 := by
    intro x x0 x1
    have := (allR_iff _ _).mp hfr x x0 (by omega)
    rw [Bool.and_eq_true] at this
    exact of_decide_eq_true this.1
  have hn : ∀ x y, numberAtF (addF S row from9 wide v) x y = if y = row ∧ from9 ≤ x ∧ x < from9 + wide then S.laid else numberAtF S x y := fun x y => num_set (S := addF S row from9 wide v) (f := S.num) (by omega) h2.1 (by omega) h2.2.2.2 rfl x y
  have old : ∀ s, ¬ s = S.laid → (addF S row from9 wide v).row s = S.row s ∧ (addF S row from9 wide v).frm s = S.frm s ∧ (addF S row from9 wide v).wid s = S.wid s ∧ (addF S row from9 wide v).nai s = S.nai s ∧ (addF S row from9 wide v).crk s = S.crk s ∧ (addF S row from9 wide v).onr s = S.onr s := fun s hs => ⟨if_neg hs, if_neg hs, if_neg hs, if_neg hs, if_neg hs, if_neg hs⟩
  have new : (addF S row from9 wide v).row S.laid = row ∧ (addF S row from9 wide v).frm S.laid = from9 ∧ (addF S row from9 wide v).wid S.laid = wide ∧ (addF S row from9 wide v).nai S.laid = v ∧ (addF S row from9 wide v).crk S.laid = 0 ∧ (addF S row from9 wide v).onr S.laid = 1 := ⟨if_pos rfl, if_pos rfl, if_pos rfl, if_pos rfl, if_pos rfl, if_pos rfl⟩
  have el : (addF S row from9 wide v).laid = S.laid + 1 := rfl
  have et : (addF S row from9 wide v).there = S.there + 1 := rfl
  have eb : (addF S row from9 wide v).blown = S.blown := rfl
  have hBn : RB (addF S row from9 wide v) := by
    have a := addA_r hB (row := row) (from9 := from9) (wide := wide) (v := v) h1 h2.1 (by omega) h2.2.2.2 (by omega)
    exact (a.s_num (setNumL_r (by omega) _ _ _ a.num_r)).s_laid (v := S.laid + 1) (by omega)
  generalize hA : addF S row from9 wide v = A at *
  obtain ⟨n0, n1, n2, n3, n4, n5⟩ := new
  refine ⟨hBn, ⟨fun s s0 s1 => ?_, fun s x y hs => ?_, fun x y => ?_, ⟨?_, by omega⟩, ?_⟩, ?_, fun k k0 k1 => ?_, fun x y x0 x1 y0 y1 => ?_, ?_, ?_⟩
  · by_cases e : s = S.laid
    · subst e; omega
    · obtain ⟨-, -, e2, e3, -, -⟩ := old s e
      rw [e2, e3]; exact hW.1 s s0 (by omega)
  · rw [hn]
    obtain ⟨⟨a, b, c⟩, d, f, g⟩ := hs
    by_cases e : s = S.laid
    · subst e
      rw [if_pos (by omega)]
    · obtain ⟨e0, e1, e2, -, -, e5⟩ := old s e
      have := hW.2.1 s x y ⟨⟨a, by omega, by omega⟩, by omega, by omega, by omega⟩
      rw [if_neg]
      · exact this
      · rintro ⟨u1, u2, u3⟩
        subst u1
        have := hfree x u2 u3
        omega
  · rw [hn]
    by_cases e : y = row ∧ from9 ≤ x ∧ x < from9 + wide
    · rw [if_pos e]
      exact Or.inr ⟨⟨by omega, by omega, n5⟩, by omega, by omega, by omega⟩
    · rw [if_neg e]
      rcases hW.2.2.1 x y with q | q
      · exact Or.inl q
      · generalize numberAtF S x y = s at q
        obtain ⟨⟨a, b, c⟩, d, f, g⟩ := q
        obtain ⟨e0, e1, e2, -, -, e5⟩ := old s (by omega)
        exact Or.inr ⟨⟨a, by omega, by omega⟩, by omega, by omega, by omega⟩
  · rw [et, el, show (S.laid + 1).toNat = S.laid.toNat + 1 by omega, sumR_last, show 0 + (S.laid.toNat : Int) = S.laid by omega, n5, hW.2.2.2.1.1]
    rw [decide_eq_true rfl, bI_t]
    congr 1
    refine sumR_congrN _ (fun j j0 j1 => ?_)
    rw [(old j (by omega)).2.2.2.2.2]
  · have := hW.2.2.2.2; omega
  · have := hR.1
    show ((M.n + 1 : Nat) : Int) = A.laid
    omega
  · show ab_uf M.sl (M.n : Int) (slN row from9 wide v) k 0 = A.row k ∧ ab_uf M.sl (M.n : Int) (slN row from9 wide v) k 1 = A.frm k ∧ ab_uf M.sl (M.n : Int) (slN row from9 wide v) k 2 = A.wid k ∧ ab_uf M.sl (M.n : Int) (slN row from9 wide v) k 3 = A.nai k ∧ ab_uf M.sl (M.n : Int) (slN row from9 wide v) k 4 = A.crk k ∧ ab_uf M.sl (M.n : Int) (slN row from9 wide v) k 5 = A.onr k
    rw [hR.1]
    by_cases e : k = S.laid
    · subst e
      have e9 : ab_uf M.sl S.laid (slN row from9 wide v) S.laid = slN row from9 wide v := if_pos rfl
      rw [e9, n0, n1, n2, n3, n4, n5]
      exact slN_i row from9 wide v
    · have e9 : ab_uf M.sl S.laid (slN row from9 wide v) k = M.sl k := if_neg e
      obtain ⟨e0, e1, e2, e3, e4, e5⟩ := old k e
      rw [e9, e0, e1, e2, e3, e4, e5]
      exact hR.2.1 k k0 (by omega)
  · subst hA; exact hR.2.2.1 x y x0 x1 y0 y1
  · subst hA; exact hR.2.2.2.1
  · rw [eb]; exact hR.2.2.2.2
def delS (M : SM) (k : Int) : SM := M.s_sl (ab_uf M.sl k (ab_uf (M.sl k) 5 0))
theorem good_remove {S : RS} {M : SM} (hg : Good S M) {s : Int} (s0 : 0 ≤ s) (s1 : s < S.laid) (hon : S.onr s = 1) : Good (removeF S s) (delS M s) ∧ (removeF S s).there = S.there - 1 ∧ (removeF S s).laid = S.laid ∧ (removeF S s).blown = S.blown ∧ (removeF S s).goe = S.goe := by
  obtain ⟨hB, hW, hR⟩ := hg
  have hl0 := hB.laid_r
  have hfr := hB.frm_r s
  have hrw := hB.row_r s
  have ht : isThereF S s = true := by unfold isThereF; rw [known_t hB s0 s1, decide_eq_true hon]; rfl
  have hn : ∀ x y, numberAtF (removeF S s) x y = if y = S.row s ∧ S.frm s ≤ x ∧ x < S.frm s + S.wid s then -1 else numberAtF S x y := fun x y => num_set (S := removeF S s) (f := S.num) (row := S.row s) (from9 := S.frm s) (wide := S.wid s) (v := -1) (by omega) (by omega) (by omega) (by omega) (by unfold removeF; rw [ht]; rfl) x y
  have hself : ∀ x y, numberAtF S x y = s → y = S.row s ∧ S.frm s ≤ x ∧ x < S.frm s + S.wid s := fun x y q => by
    have := (atP_num hW s0).mpr q
    exact ⟨this.2.1.symm, this.2.2.1, this.2.2.2⟩
  have hBn : RB (removeF S s) := by
    unfold removeF
    rw [ht, cond_true]
    have a := hB.s_onr (uf_all (P := fun q => q = 0 ∨ q = 1) hB.onr_r (j := s) (v := 0) (Or.inl rfl))
    exact a.s_num (setNumL_r (by omega) _ _ _ a.num_r)
  have fl : (removeF S s).row = S.row ∧ (removeF S s).frm = S.frm ∧ (removeF S s).wid = S.wid ∧ (removeF S s).nai = S.nai ∧ (removeF S s).crk = S.crk ∧ (removeF S s).onr = ab_uf S.onr s 0 ∧ (removeF S s).rot = S.rot ∧ (removeF S s).day = S.day ∧ (removeF S s).laid = S.laid ∧ (removeF S s).there = S.there - 1 ∧ (removeF S s).blown = S.blown ∧ (removeF S s).goe = S.goe := by
    unfold removeF
    rw [ht]
    exact ⟨rfl, rfl, rfl, rfl, rfl, rfl, rfl, rfl, rfl, rfl, rfl, rfl⟩
  generalize hA : removeF S s = A at *
  obtain ⟨f0, f1, f2, f3, f4, f5, f6, f7, f8, f9, f10, f11⟩ := fl
  have onn : ∀ j, ¬ j = s → A.onr j = S.onr j := fun j hj => by rw [f5]; exact if_neg hj
  have ons : A.onr s = 0 := by rw [f5]; exact if_pos rfl
  refine ⟨⟨hBn, ⟨fun j j0 j1 => ?_, fun j x y hj => ?_, fun x y => ?_, ⟨?_, ?_⟩, ?_⟩, ?_, fun k k0 k1 => ?_, fun x y x0 x1 y0 y1 => ?_, ?_, ?_⟩, f9, f8, f10, f11⟩
  · rw [f2, f3]; exact hW.1 j j0 (by omega)
  · obtain ⟨⟨a, b, c⟩, d, e, f⟩ := hj
    have hjs : ¬ j = s := by rintro rfl; omega
    rw [onn j hjs] at c
    rw [f0] at d
    rw [f1] at e f
    rw [f2] at f
    have := hW.2.1 j x y ⟨⟨a, by omega, c⟩, d, e, f⟩
    rw [hn, if_neg]
    · exact this
    · rintro ⟨u1, u2, u3⟩
      have := hW.2.1 s x y ⟨⟨s0, s1, hon⟩, u1.symm, u2, u3⟩
      omega
  · rw [hn]
    by_cases e : y = S.row s ∧ S.frm s ≤ x ∧ x < S.frm s + S.wid s
    · rw [if_pos e]; exact Or.inl rfl
    · rw [if_neg e]
      rcases hW.2.2.1 x y with q | q
      · exact Or.inl q
      · refine Or.inr ?_
        have hjs : ¬ numberAtF S x y = s := fun q2 => e (hself x y q2)
        obtain ⟨⟨a, b, c⟩, d⟩ := q
        refine ⟨⟨a, by omega, by rw [onn _ hjs]; exact c⟩, ?_⟩
        rw [f0, f1, f2]; exact d
  · rw [f9, f8, hW.2.2.2.1.1]
    have e1 : sumR (fun j => bI (decide (S.onr j = 1))) S.laid.toNat 0 = sumR (fun j => bI (decide (A.onr j = 1)) + bI (decide (j = s))) S.laid.toNat 0 := by
      refine sumR_congrN _ (fun j j0 j1 => ?_)
      by_cases hj : j = s
      · subst hj; rw [hon, ons]; simp [bI]
      · rw [onn j hj, decide_eq_false hj, bI_f]; omega
    rw [e1, ← sumR_add, sumR_ind, if_pos (by omega)]
    omega
  · have := hW.2.2.2.1.2; omega
  · have := hW.2.2.2.2; omega
  · rw [f8]; exact hR.1
  · show ab_uf M.sl s (ab_uf (M.sl s) 5 0) k 0 = A.row k ∧ ab_uf M.sl s (ab_uf (M.sl s) 5 0) k 1 = A.frm k ∧ ab_uf M.sl s (ab_uf (M.sl s) 5 0) k 2 = A.wid k ∧ ab_uf M.sl s (ab_uf (M.sl s) 5 0) k 3 = A.nai k ∧ ab_uf M.sl s (ab_uf (M.sl s) 5 0) k 4 = A.crk k ∧ ab_uf M.sl s (ab_uf (M.sl s) 5 0) k 5 = A.onr k
    rw [f0, f1, f2, f3, f4]
    have hr := hR.2.1 k k0 (by omega)
    by_cases e : k = s
    · subst e
      have e9 : ab_uf M.sl k (ab_uf (M.sl k) 5 0) k = ab_uf (M.sl k) 5 0 := if_pos rfl
      rw [e9, ons]
      exact ⟨hr.1, hr.2.1, hr.2.2.1, hr.2.2.2.1, hr.2.2.2.2.1, rfl⟩
    · have e9 : ab_uf M.sl s (ab_uf (M.sl s) 5 0) k = M.sl k := if_neg e
      rw [e9, onn k e]
      exact hr
  · rw [f6]; exact hR.2.2.1 x y x0 x1 y0 y1
  · rw [f7]; exact hR.2.2.2.1
  · rw [f10]; exact hR.2.2.2.2
theorem good_nail {S : RS} {M : SM} (hg : Good S M) {s v : Int} (s0 : 0 ≤ s) (s1 : s < S.laid) (hv : 1 ≤ v ∧ v ≤ 3) : Good (setNailsF S s v) (M.s_sl (ab_uf M.sl s (ab_uf (M.sl s) 3 v))) := by
  obtain ⟨hB, hW, hR⟩ := hg
  have hk := known_t hB s0 s1
  have e : setNailsF S s v = S.s_nai (ab_uf S.nai s v) := by unfold setNailsF; rw [hk]; rfl
  rw [e]
  refine ⟨hB.s_nai (uf_all (P := fun q => 0 ≤ q ∧ q ≤ 3) hB.nai_r (by omega)), ⟨fun j j0 j1 => ?_, hW.2.1, hW.2.2.1, hW.2.2.2.1, hW.2.2.2.2⟩, hR.1, fun k k0 k1 => ?_, hR.2.2.1, hR.2.2.2.1, hR.2.2.2.2⟩
  · have := hW.1 j j0 j1
    refine ⟨this.1, ?_⟩
    show 1 ≤ ab_uf S.nai s v j
    simp only [ab_uf]
    split
    · omega
    · exact this.2
  · have hr := hR.2.1 k k0 k1
    show ab_uf M.sl s (ab_uf (M.sl s) 3 v) k 0 = S.row k ∧ ab_uf M.sl s (ab_uf (M.sl s) 3 v) k 1 = S.frm k ∧ ab_uf M.sl s (ab_uf (M.sl s) 3 v) k 2 = S.wid k ∧ ab_uf M.sl s (ab_uf (M.sl s) 3 v) k 3 = ab_uf S.nai s v k ∧ ab_uf M.sl s (ab_uf (M.sl s) 3 v) k 4 = S.crk k ∧ ab_uf M.sl s (ab_uf (M.sl s) 3 v) k 5 = S.onr k
    by_cases e : k = s
    · subst e
      have e9 : ab_uf M.sl k (ab_uf (M.sl k) 3 v) k = ab_uf (M.sl k) 3 v := if_pos rfl
      have e8 : ab_uf S.nai k v k = v := if_pos rfl
      rw [e9, e8]
      exact ⟨hr.1, hr.2.1, hr.2.2.1, rfl, hr.2.2.2.2.1, hr.2.2.2.2.2⟩
    · have e9 : ab_uf M.sl s (ab_uf (M.sl s) 3 v) k = M.sl k := if_neg e
      have e8 : ab_uf S.nai s v k = S.nai k := if_neg e
      rw [e9, e8]
      exact hr
theorem good_rot {S : RS} {M : SM} (hg : Good S M) {x y v : Int} (hx : 0 ≤ x ∧ x ≤ 11) (hy : 0 ≤ y ∧ y ≤ 7) (hv : 0 ≤ v ∧ v ≤ 9) : Good (setRotF S x y v) (M.s_rt (ab_uf M.rt x (ab_uf (M.rt x) y v))) := by
  obtain ⟨hB, hW, hR⟩ := hg
  have e : setRotF S x y v = S.s_rot (ab_uf S.rot (12 * y + x) v) := by unfold setRotF; rw [show isPlaceF x y = true from decide_eq_true (by omega)]; rfl
  rw [e]
  refine ⟨hB.s_rot (uf_all (P := fun q => 0 ≤ q ∧ q ≤ 9) hB.rot_r hv), hW, hR.1, hR.2.1, fun i j i0 i1 j0 j1 => ?_, hR.2.2.2.1, hR.2.2.2.2⟩
  show ab_uf M.rt x (ab_uf (M.rt x) y v) i j = ab_uf S.rot (12 * y + x) v (12 * j + i)
  have hr := hR.2.2.1 i j i0 i1 j0 j1
  by_cases h1 : i = x
  · subst h1
    have e9 : ab_uf M.rt i (ab_uf (M.rt i) y v) i = ab_uf (M.rt i) y v := if_pos rfl
    rw [e9]
    by_cases h2 : j = y
    · subst h2
      have e8 : ab_uf S.rot (12 * j + i) v (12 * j + i) = v := if_pos rfl
      rw [e8]; exact if_pos rfl
    · have e8 : ab_uf S.rot (12 * y + i) v (12 * j + i) = S.rot (12 * j + i) := if_neg (by omega)
      rw [e8, ← hr]; exact if_neg h2
  · have e9 : ab_uf M.rt x (ab_uf (M.rt x) y v) i = M.rt i := if_neg h1
    have e8 : ab_uf S.rot (12 * y + x) v (12 * j + i) = S.rot (12 * j + i) := if_neg (by omega)
    rw [e9, e8]; exact hr
