/-! ===== what a storm and a day do, told of the law's own roof ===== -/
theorem uf55 (f : Int → Int) : ab_uf (ab_uf f 5 0) 5 0 = ab_uf f 5 0 := by
  funext j
  simp only [ab_uf]
  split <;> rfl
theorem storm_sl (force right : Int) : ∀ (n : Nat) (M : SM) (k : Int), (stormL force right n M).sl k = M.sl k ∨ (stormL force right n M).sl k = ab_uf (M.sl k) 5 0 := by
  intro n
  induction n with
  | zero => intro M k; exact Or.inl rfl
  | succ n ih =>
    intro M k
    simp only [stormL]
    cases anyR (goesS M force right) M.n 0
    · exact Or.inl rfl
    · rw [cond_true]
      have h1 : (offS M (goesS M force right) M.n).sl k = M.sl k ∨ (offS M (goesS M force right) M.n).sl k = ab_uf (M.sl k) 5 0 := by
        show offG _ _ _ k = _ ∨ offG _ _ _ k = _
        simp only [offG]
        split
        · exact Or.inr rfl
        · exact Or.inl rfl
      rcases ih (offS M (goesS M force right) M.n) k with h2 | h2
      · rw [h2]; exact h1
      · rw [h2]
        rcases h1 with h1 | h1
        · rw [h1]; exact Or.inr rfl
        · rw [h1, uf55]; exact Or.inr rfl
theorem stormS_sl (M : SM) (force right k : Int) : (stormS M force right).sl k = M.sl k ∨ (stormS M force right).sl k = ab_uf (M.sl k) 5 0 := by
  unfold stormS
  split
  · exact Or.inl rfl
  · exact storm_sl force right 61 M k
theorem storm_end (force right : Int) : ∀ (n : Nat) (M : SM), onS M 0 < (n : Int) → anyR (goesS (stormL force right n M) force right) (stormL force right n M).n 0 = false := by
  intro n
  induction n with
  | zero =>
    intro M h
    have : 0 ≤ onS M 0 := (sumR_rb _ _).1
    omega
  | succ n ih =>
    intro M h
    simp only [stormL]
    cases hb : anyR (goesS M force right) M.n 0
    · rw [cond_false]; exact hb
    · rw [cond_true]
      have p1 := sumR_any _ _ hb
      have o1 := off_on (goes_on (M := M) (force := force) (right := right))
      exact ih _ (by omega)
theorem storm_tk (force right : Int) : ∀ (n : Nat) (M : SM), M.tk ≤ (stormL force right n M).tk := by
  intro n
  induction n with
  | zero => intro M; exact Int.le_refl _
  | succ n ih =>
    intro M
    simp only [stormL]
    cases anyR (goesS M force right) M.n 0
    · exact Int.le_refl _
    · rw [cond_true]
      have h1 := ih (offS M (goesS M force right) M.n)
      have h2 : (offS M (goesS M force right) M.n).tk = M.tk + sumR (fun k => bI (goesS M force right k)) M.n 0 := rfl
      have h3 := (sumR_rb (g := goesS M force right) M.n 0).1
      omega
/-- a storm takes some just if one goes at its force -/
theorem storm_takes {M : SM} {force right : Int} : 0 < (stormS M force right).tk - M.tk ↔ 1 ≤ force ∧ anyR (goesS M force right) M.n 0 = true := by
  unfold stormS
  by_cases hf : force < 1
  · rw [if_pos hf]; constructor
    · intro h; omega
    · intro h; omega
  · rw [if_neg hf]
    have e : stormL force right 61 M = bif anyR (goesS M force right) M.n 0 then stormL force right 60 (offS M (goesS M force right) M.n) else M := rfl
    rw [e]
    cases hb : anyR (goesS M force right) M.n 0
    · rw [cond_false]; constructor
      · intro h; omega
      · rintro ⟨-, h⟩; cases h
    · rw [cond_true]
      have h1 := storm_tk force right 60 (offS M (goesS M force right) M.n)
      have h2 : (offS M (goesS M force right) M.n).tk = M.tk + sumR (fun k => bI (goesS M force right k)) M.n 0 := rfl
      have h3 := sumR_any _ _ hb
      constructor
      · intro _; exact ⟨by omega, rfl⟩
      · intro _; omega
theorem storm_none {M : SM} {force right : Int} (h : force < 1 ∨ anyR (goesS M force right) M.n 0 = false) : (stormS M force right).tk - M.tk = 0 := by
  unfold stormS
  by_cases hf : force < 1
  · rw [if_pos hf]; omega
  · rw [if_neg hf]
    have e : stormL force right 61 M = bif anyR (goesS M force right) M.n 0 then stormL force right 60 (offS M (goesS M force right) M.n) else M := rfl
    rw [e, h.resolve_left hf, cond_false]; omega
theorem goes_mono {M : SM} {f1 f2 right : Int} (h : f1 ≤ f2) (h1 : anyR (goesS M f1 right) M.n 0 = true) : anyR (goesS M f2 right) M.n 0 = true := by
  obtain ⟨j, j0, j1, j2⟩ := (anyR_iff _ _).mp h1
  refine (anyR_iff _ _).mpr ⟨j, j0, j1, ?_⟩
  unfold goesS liftS at j2 ⊢
  rw [Bool.and_eq_true, decide_eq_true_eq, decide_eq_true_eq] at j2 ⊢
  omega
/-- what the class says that the roof bears -/
theorem bears_at {right : Int} : ∀ (n : Nat) (fo : Int) (S : RS) (M : SM), Good S M → 1 ≤ fo → fo + n = 21 → (∀ f, 1 ≤ f → f < fo → anyR (goesS M f right) M.n 0 = false) →
    0 ≤ (bearL right n fo S).1 ∧ (bearL right n fo S).1 ≤ 20 ∧ (∀ f, 1 ≤ f → f ≤ (bearL right n fo S).1 → anyR (goesS M f right) M.n 0 = false) ∧ ((bearL right n fo S).1 < 20 → anyR (goesS M ((bearL right n fo S).1 + 1) right) M.n 0 = true) ∧ Good (bearL right n fo S).2 M := by
  intro n
  induction n with
  | zero =>
    intro fo S M hg h0 h1 h2
    simp only [bearL]
    exact ⟨by omega, by omega, fun f f0 f1 => h2 f f0 (by omega), fun q => absurd q (by omega), hg⟩
  | succ n ih =>
    intro fo S M hg h0 h1 h2
    simp only [bearL]
    have hm := many_eq hg fo right
    have hg2 := good_mark hg fo right
    by_cases hlt : 0 < manyF S fo right
    · rw [if_pos hlt]
      refine ⟨by show 0 ≤ fo - 1; omega, by show fo - 1 ≤ 20; omega, fun f f0 f1 => h2 f f0 ?_, fun _ => ?_, hg2⟩
      · have : f ≤ fo - 1 := f1; omega
      · show anyR (goesS M (fo - 1 + 1) right) M.n 0 = true
        rw [show fo - 1 + 1 = fo by omega]
        cases h : anyR (goesS M fo right) M.n 0 with
        | true => rfl
        | false => rw [hm, sumR_none _ _ h] at hlt; omega
    · rw [if_neg hlt]
      refine ih (fo + 1) _ M hg2 (by omega) (by omega) (fun f f0 f1 => ?_)
      by_cases e : f = fo
      · subst e
        cases h : anyR (goesS M f right) M.n 0 with
        | false => rfl
        | true => have := sumR_any _ _ h; omega
      · exact h2 f f0 (by omega)
theorem bears_f {S : RS} {M : SM} (hg : Good S M) (right : Int) : 0 ≤ (bearsF right S).1 ∧ (bearsF right S).1 ≤ 20 ∧ (∀ f, 1 ≤ f → f ≤ (bearsF right S).1 → anyR (goesS M f right) M.n 0 = false) ∧ ((bearsF right S).1 < 20 → anyR (goesS M ((bearsF right S).1 + 1) right) M.n 0 = true) ∧ Good (bearsF right S).2 M :=
  bears_at 20 1 S M hg (by omega) (by omega) (fun f f0 f1 => absurd f1 (by omega))
theorem upon_mono {M M1 : SM} (hn : M1.n = M.n) (h : ∀ k, M1.sl k = M.sl k ∨ M1.sl k = ab_uf (M.sl k) 5 0) (f : Int → Int) : uponS M1 f ≤ uponS M f := by
  unfold uponS
  rw [hn]
  have : ∀ (n : Nat) (x : Int), sumR (fun k => bI (meetsF (M1.sl k) (f 0 + 1) (f 1) (f 2))) n x ≤ sumR (fun k => bI (meetsF (M.sl k) (f 0 + 1) (f 1) (f 2))) n x := by
    intro n
    induction n with
    | zero => intro x; exact Int.le_refl _
    | succ n ih =>
      intro x
      have h1 := ih (x + 1)
      simp only [sumR]
      have h2 : bI (meetsF (M1.sl x) (f 0 + 1) (f 1) (f 2)) ≤ bI (meetsF (M.sl x) (f 0 + 1) (f 1) (f 2)) := by
        rcases h x with e | e
        · rw [e]; exact Int.le_refl _
        · have : meetsF (M1.sl x) (f 0 + 1) (f 1) (f 2) = false := by
            rw [e]; unfold meetsF; refine decide_eq_false (fun q => ?_); exact absurd q.1 (by show ¬ (0 : Int) = 1; decide)
          rw [this, bI_f]
          cases meetsF (M.sl x) (f 0 + 1) (f 1) (f 2)
          · exact Int.le_refl _
          · decide
      omega
  exact this M.n 0
theorem hold_mono {M M1 : SM} (mb : MB M) (mb1 : MB M1) (hn : M1.n = M.n) (hr : M1.rt = M.rt) (h : ∀ k, M1.sl k = M.sl k ∨ M1.sl k = ab_uf (M.sl k) 5 0) {f : Int → Int} (hf : slB f) : holdS M1 f ≤ holdS M f := by
  have h1 := upon_mono hn h f
  have h2 := uponS_r f mb
  have h3 := uponS_r f mb1
  have e : eachL M1 (f 0) (f 2).toNat (f 1) 3 = eachL M (f 0) (f 2).toNat (f 1) 3 := by rw [each_eq, each_eq, hr]
  obtain ⟨a1, a2, a3, a4, a5⟩ := hf
  have h4 : 0 ≤ eachL M (f 0) (f 2).toNat (f 1) 3 * f 3 := by
    rcases eachL_r (M := M) (row := f 0) (f 2).toNat (f 1) 3 (Or.inr rfl) with q | q <;> rw [q] <;> omega
  unfold holdS
  rw [e]
  split
  · rw [Int.tdiv_eq_ediv_of_nonneg (by omega), Int.tdiv_eq_ediv_of_nonneg (by omega)]
    omega
  · omega
/-- what a day does to a slate -/
theorem pass_sl (M : SM) (k : Int) : let d := M.dy (M.day % 7); ∃ c : Bool, (passS M).sl k = (bif c then ab_uf ((stormS M (d 0) (d 1)).sl k) 4 1 else (stormS M (d 0) (d 1)).sl k) ∧ (c = true → ¬ (stormS M (d 0) (d 1)).sl k 5 = 0 ∧ (stormS M (d 0) (d 1)).sl k 3 + 4 ≤ d 2) := by
  intro d
  have e : (passS M).sl k = crkF (stormS M (d 0) (d 1)).sl (crkG (stormS M (d 0) (d 1)) (d 2)) (stormS M (d 0) (d 1)).n k := rfl
  rw [e]
  simp only [crkF]
  split
  · rename_i h
    refine ⟨true, rfl, fun _ => ?_⟩
    have := h.2.2
    unfold crkG at this
    rw [Bool.and_eq_true, decide_eq_true_eq] at this
    exact this.1
  · exact ⟨false, rfl, fun q => by cases q⟩
theorem lift_4 {M M1 : SM} (hn : M1.n = M.n) (h : ∀ k, ∃ c : Bool, M1.sl k = bif c then ab_uf (M.sl k) 4 1 else M.sl k) {f f1 : Int → Int} (hf : ∃ c : Bool, f1 = bif c then ab_uf f 4 1 else f) (force right : Int) : liftS M1 f1 force right = liftS M f force right := by
  have h4 : ∀ (g : Int → Int) (c : Bool), (bif c then ab_uf g 4 1 else g) 0 = g 0 ∧ (bif c then ab_uf g 4 1 else g) 1 = g 1 ∧ (bif c then ab_uf g 4 1 else g) 2 = g 2 ∧ (bif c then ab_uf g 4 1 else g) 5 = g 5 := by
    intro g c; cases c <;> exact ⟨rfl, rfl, rfl, rfl⟩
  obtain ⟨c, rfl⟩ := hf
  obtain ⟨e0, e1, e2, e5⟩ := h4 f c
  unfold liftS
  rw [hn, e0]
  have : ∀ k, sideF (M1.sl k) (bif c then ab_uf f 4 1 else f) right = sideF (M.sl k) f right := by
    intro k
    obtain ⟨c2, q⟩ := h k
    obtain ⟨g0, g1, g2, g5⟩ := h4 (M.sl k) c2
    unfold sideF
    rw [q, e0, e1, e2, g0, g1, g2, g5]
  simp only [this]
/-- all that a day may do to a slate, as the law asks -/
theorem day_sl {M : SM} (mb : MB M) (mb1 : MB (stormS M (M.dy (M.day % 7) 0) (M.dy (M.day % 7) 1))) (hon : onS M 0 ≤ 60) {k : Int} (k0 : 0 ≤ k) (k1 : k < (M.n : Int)) :
    ((passS M).sl k 0 = M.sl k 0 ∧ (passS M).sl k 1 = M.sl k 1 ∧ (passS M).sl k 2 = M.sl k 2 ∧ (passS M).sl k 3 = M.sl k 3) ∧ ((passS M).sl k 5 = 1 → M.sl k 5 = 1) ∧ M.sl k 4 ≤ (passS M).sl k 4 ∧
    (M.sl k 5 = 1 → ¬ (passS M).sl k 5 = 1 → ¬ M.dy (M.day % 7) 0 = 0) ∧ (M.sl k 4 < (passS M).sl k 4 → M.sl k 3 + 3 < M.dy (M.day % 7) 2 ∧ (passS M).sl k 5 = 1) ∧
    ((passS M).sl k 5 = 1 → 0 < M.dy (M.day % 7) 0 → liftS (passS M) ((passS M).sl k) (M.dy (M.day % 7) 0) (M.dy (M.day % 7) 1) ≤ holdS M (M.sl k)) := by
  obtain ⟨c, e1, e2⟩ := pass_sl M k
  have e3 := stormS_sl M (M.dy (M.day % 7) 0) (M.dy (M.day % 7) 1) k
  have o := stormS_o M (M.dy (M.day % 7) 0) (M.dy (M.day % 7) 1)
  have b := slB_r (mb.1 k)
  have b1 := mb1.1 k
  have allc : ∀ j, ∃ c : Bool, (passS M).sl j = bif c then ab_uf ((stormS M (M.dy (M.day % 7) 0) (M.dy (M.day % 7) 1)).sl j) 4 1 else (stormS M (M.dy (M.day % 7) 0) (M.dy (M.day % 7) 1)).sl j := fun j => by
    obtain ⟨c, q, -⟩ := pass_sl M j; exact ⟨c, q⟩
  have alls := stormS_sl M (M.dy (M.day % 7) 0) (M.dy (M.day % 7) 1)
  have hz : ¬ M.sl k 5 = (stormS M (M.dy (M.day % 7) 0) (M.dy (M.day % 7) 1)).sl k 5 → ¬ M.dy (M.day % 7) 0 = 0 := by
    intro q hd
    refine q ?_
    unfold stormS
    rw [if_pos (by omega)]
  have hpn : (passS M).n = (stormS M (M.dy (M.day % 7) 0) (M.dy (M.day % 7) 1)).n := rfl
  have hend : 0 < M.dy (M.day % 7) 0 → (stormS M (M.dy (M.day % 7) 0) (M.dy (M.day % 7) 1)).sl k 5 = 1 → liftS (stormS M (M.dy (M.day % 7) 0) (M.dy (M.day % 7) 1)) ((stormS M (M.dy (M.day % 7) 0) (M.dy (M.day % 7) 1)).sl k) (M.dy (M.day % 7) 0) (M.dy (M.day % 7) 1) ≤ holdS (stormS M (M.dy (M.day % 7) 0) (M.dy (M.day % 7) 1)) ((stormS M (M.dy (M.day % 7) 0) (M.dy (M.day % 7) 1)).sl k) := by
    intro hp h5
    have h := storm_end (M.dy (M.day % 7) 0) (M.dy (M.day % 7) 1) 61 M (by omega)
    have e : stormL (M.dy (M.day % 7) 0) (M.dy (M.day % 7) 1) 61 M = stormS M (M.dy (M.day % 7) 0) (M.dy (M.day % 7) 1) := by unfold stormS; rw [if_neg (by omega)]
    rw [e] at h
    have hk : goesS (stormS M (M.dy (M.day % 7) 0) (M.dy (M.day % 7) 1)) (M.dy (M.day % 7) 0) (M.dy (M.day % 7) 1) k = false := by
      rw [← Bool.not_eq_true]
      intro q
      rw [← Bool.not_eq_true, anyR_iff] at h
      exact h ⟨k, k0, by rw [o.1]; omega, q⟩
    unfold goesS at hk
    rw [decide_eq_true h5, Bool.true_and] at hk
    have := of_decide_eq_false hk
    omega
  have hlm : liftS (passS M) ((passS M).sl k) (M.dy (M.day % 7) 0) (M.dy (M.day % 7) 1) = liftS (stormS M (M.dy (M.day % 7) 0) (M.dy (M.day % 7) 1)) ((stormS M (M.dy (M.day % 7) 0) (M.dy (M.day % 7) 1)).sl k) (M.dy (M.day % 7) 0) (M.dy (M.day % 7) 1) := lift_4 hpn allc ⟨c, e1⟩ _ _
  have hhm := hold_mono mb mb1 o.1 o.2.1 alls (mb.1 k)
  rw [hlm]
  generalize stormS M (M.dy (M.day % 7) 0) (M.dy (M.day % 7) 1) = M1 at *
  generalize passS M = M2 at *
  generalize M.dy (M.day % 7) = d at *
  have u : ∀ (c : Bool) (f : Int → Int), (bif c then ab_uf f 4 1 else f) 0 = f 0 ∧ (bif c then ab_uf f 4 1 else f) 1 = f 1 ∧ (bif c then ab_uf f 4 1 else f) 2 = f 2 ∧ (bif c then ab_uf f 4 1 else f) 3 = f 3 ∧ (bif c then ab_uf f 4 1 else f) 5 = f 5 ∧ (bif c then ab_uf f 4 1 else f) 4 = bif c then 1 else f 4 := by
    intro c f; cases c <;> exact ⟨rfl, rfl, rfl, rfl, rfl, rfl⟩
  obtain ⟨u0, u1, u2, u3, u5, u4⟩ := u c (M1.sl k)
  rw [← e1] at u0 u1 u2 u3 u5 u4
  have v : M1.sl k 0 = M.sl k 0 ∧ M1.sl k 1 = M.sl k 1 ∧ M1.sl k 2 = M.sl k 2 ∧ M1.sl k 3 = M.sl k 3 ∧ M1.sl k 4 = M.sl k 4 := by
    rcases e3 with q | q <;> rw [q] <;> exact ⟨rfl, rfl, rfl, rfl, rfl⟩
  obtain ⟨v0, v1, v2, v3, v4⟩ := v
  have w : M1.sl k 5 = 1 → M1.sl k = M.sl k := by
    intro h5
    rcases e3 with q | q
    · exact q
    · rw [q] at h5; exact absurd h5 (by show ¬ (0 : Int) = 1; decide)
  have c4 : (bif c then (1 : Int) else M1.sl k 4) = 1 ∨ (bif c then (1 : Int) else M1.sl k 4) = M1.sl k 4 := by cases c <;> simp
  refine ⟨⟨by omega, by omega, by omega, by omega⟩, fun h => ?_, by omega, fun h h2 => hz (by omega), fun h => ?_, fun h h2 => ?_⟩
  · rw [← w (by omega)]; omega
  · cases hc : c
    · rw [hc, cond_false] at u4; omega
    · have := e2 hc
      obtain ⟨-, -, -, -, q5⟩ := b1
      omega
  · have h5 : M1.sl k 5 = 1 := by omega
    have := hend h2 h5
    rw [w h5] at this ⊢
    omega
