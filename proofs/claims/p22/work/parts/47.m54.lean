/-! ===== a repair: what is in the way, where it is best, and that it lets no more in ===== -/
/-- what is counted as in the way: all that goes, each on the roof -/
def Way (S : RS) (P : Int × RS) : Prop := ∃ G : Int → Int, P.2 = S.s_goe G ∧ (∀ s, G s = 0 ∨ G s = 1) ∧ (∀ s, 0 ≤ s → s < S.laid → G s = 1 → S.onr s = 1) ∧ P.1 = sumR (fun s => bI (decide (G s = 1))) S.laid.toNat 0
def WayLe (S : RS) (P Q : Int × RS) : Prop := ∀ s, 0 ≤ s → s < S.laid → P.2.goe s = 1 → Q.2.goe s = 1
theorem num_goe (S : RS) (G : Int → Int) (x y : Int) : numberAtF (S.s_goe G) x y = numberAtF S x y := rfl
theorem way_one {S : RS} (hB : RB S) (hW : WF S) {P : Int × RS} (h : Way S P) (x y : Int) : Way S (wayOne P x y) ∧ WayLe S P (wayOne P x y) ∧ (∀ s, numberAtF S x y = s → ¬ s = -1 → (wayOne P x y).2.goe s = 1) := by
  obtain ⟨G, e, h1, h2, h3⟩ := h
  obtain ⟨p, A⟩ := P
  dsimp only at e h3
  subst e
  unfold wayOne
  dsimp only
  rw [num_goe]
  by_cases hn : numberAtF S x y = -1
  · have hl : letsF (S.s_goe G) (numberAtF S x y) = false := by
      unfold letsF isKnownF
      rw [hn, decide_eq_false (by omega)]; rfl
    have e2 : letGoF (S.s_goe G) (numberAtF S x y) = S.s_goe G := by unfold letGoF; rw [hl]; rfl
    rw [hl, e2, bI_f, Int.add_zero]
    exact ⟨⟨G, rfl, h1, h2, h3⟩, fun _ _ _ q => q, fun s q q2 => absurd (q.symm.trans hn) q2⟩
  · obtain ⟨a0, a1⟩ := num_lt hW (x := x) (y := y) rfl hn
    have hon : S.onr (numberAtF S x y) = 1 := by
      rcases hW.2.2.1 x y with q | q
      · exact absurd q hn
      · exact q.1.2.2
    have hk : isKnownF (S.s_goe G) (numberAtF S x y) = true := known_t (S := S.s_goe G) (hB.s_goe h1) a0 a1
    generalize numberAtF S x y = k at *
    rcases h1 k with hg | hg
    · have hl : letsF (S.s_goe G) k = true := by unfold letsF; rw [hk]; exact decide_eq_true hg
      have e2 : letGoF (S.s_goe G) k = S.s_goe (ab_uf G k 1) := by unfold letGoF; rw [hl]; rfl
      rw [hl, e2, bI_t]
      refine ⟨⟨ab_uf G k 1, rfl, uf_all (P := fun q => q = 0 ∨ q = 1) h1 (Or.inr rfl), fun s s0 s1 hs => ?_, ?_⟩, fun s _ _ q => ?_, fun s q _ => ?_⟩
      · by_cases e : s = k
        · rw [e]; exact hon
        · refine h2 s s0 s1 ?_
          have : ab_uf G k 1 s = G s := if_neg e
          rw [← this]; exact hs
      · show p + 1 = _
        have e3 : sumR (fun s => bI (decide (ab_uf G k 1 s = 1))) S.laid.toNat 0 = sumR (fun s => bI (decide (G s = 1)) + bI (decide (s = k))) S.laid.toNat 0 := by
          refine sumR_congrN _ (fun j j0 j1 => ?_)
          by_cases e : j = k
          · subst e
            have e4 : ab_uf G j 1 j = 1 := if_pos rfl
            rw [e4, hg]; simp [bI]
          · have e4 : ab_uf G k 1 j = G j := if_neg e
            rw [e4, decide_eq_false e, bI_f]; omega
        rw [e3, ← sumR_add, sumR_ind, if_pos (by omega), h3]
      · show ab_uf G k 1 s = 1
        simp only [ab_uf]
        split
        · rfl
        · exact q
      · subst q; exact if_pos rfl
    · have hl : letsF (S.s_goe G) k = false := by unfold letsF; rw [hk, Bool.true_and]; exact decide_eq_false (by show ¬ G k = 0; omega)
      have e2 : letGoF (S.s_goe G) k = S.s_goe G := by unfold letGoF; rw [hl]; rfl
      rw [hl, e2, bI_f, Int.add_zero]
      exact ⟨⟨G, rfl, h1, h2, h3⟩, fun _ _ _ q => q, fun s q _ => by subst q; exact hg⟩
theorem way_b {S : RS} (hB : RB S) (hW : WF S) (row : Int) : ∀ (n : Nat) (x : Int) (P : Int × RS), Way S P → Way S (wayB row n x P) ∧ WayLe S P (wayB row n x P) ∧ ∀ x', x ≤ x' → x' < x + n → ∀ s, (numberAtF S x' row = s ∨ numberAtF S x' (row + 1) = s) → ¬ s = -1 → (wayB row n x P).2.goe s = 1 := by
  intro n
  induction n with
  | zero => intro x P h; exact ⟨h, fun _ _ _ q => q, fun x' h0 h1 => absurd h1 (by omega)⟩
  | succ n ih =>
    intro x P h
    simp only [wayB]
    obtain ⟨a1, a2, a3⟩ := way_one hB hW h x row
    obtain ⟨b1, b2, b3⟩ := way_one hB hW a1 x (row + 1)
    obtain ⟨c1, c2, c3⟩ := ih (x + 1) _ b1
    refine ⟨c1, fun s s0 s1 q => c2 s s0 s1 (b2 s s0 s1 (a2 s s0 s1 q)), fun x' h0 h1 s hs hn => ?_⟩
    by_cases e : x' = x
    · subst e
      have hlt : 0 ≤ s ∧ s < S.laid := by rcases hs with q | q <;> exact num_lt hW q hn
      rcases hs with q | q
      · exact c2 s hlt.1 hlt.2 (b2 s hlt.1 hlt.2 (a3 s q hn))
      · exact c2 s hlt.1 hlt.2 (b3 s q hn)
    · exact c3 x' (by omega) (by omega) s hs hn
theorem way_c {S : RS} (hB : RB S) (hW : WF S) (y : Int) : ∀ (n : Nat) (x : Int) (P : Int × RS), Way S P → Way S (wayC y n x P) ∧ WayLe S P (wayC y n x P) := by
  intro n
  induction n with
  | zero => intro x P h; exact ⟨h, fun _ _ _ q => q⟩
  | succ n ih =>
    intro x P h
    simp only [wayC]
    cases goingF P.2 (numberAtF P.2 x y)
    · exact ih (x + 1) P h
    · obtain ⟨a1, a2, -⟩ := way_one hB hW h x (y + 1)
      obtain ⟨c1, c2⟩ := ih (x + 1) _ a1
      exact ⟨c1, fun s s0 s1 q => c2 s s0 s1 (a2 s s0 s1 q)⟩
theorem way_d {S : RS} (hB : RB S) (hW : WF S) : ∀ (n : Nat) (y : Int) (P : Int × RS), Way S P → Way S (wayD n y P) ∧ WayLe S P (wayD n y P) := by
  intro n
  induction n with
  | zero => intro y P h; exact ⟨h, fun _ _ _ q => q⟩
  | succ n ih =>
    intro y P h
    simp only [wayD]
    obtain ⟨a1, a2⟩ := way_c hB hW y 12 0 P h
    obtain ⟨c1, c2⟩ := ih (y + 1) _ a1
    exact ⟨c1, fun s s0 s1 q => c2 s s0 s1 (a2 s s0 s1 q)⟩
theorem sumR_z : ∀ (n : Nat) (x : Int), sumR (fun _ => (0 : Int)) n x = 0 := by
  intro n
  induction n with
  | zero => intro x; rfl
  | succ n ih => intro x; simp only [sumR, ih]; rfl
theorem way_0 {S : RS} (hB : RB S) : Way S (0, S.s_goe (clrG 200 S.goe)) := by
  have hl := hB.laid_r
  refine ⟨clrG 200 S.goe, rfl, clrG_r hB.goe_r 200, fun s s0 s1 q => ?_, ?_⟩
  · unfold clrG at q; rw [if_pos (by omega)] at q; omega
  · have : sumR (fun s => bI (decide (clrG 200 S.goe s = 1))) S.laid.toNat 0 = sumR (fun _ => 0) S.laid.toNat 0 := by
      refine sumR_congrN _ (fun j j0 j1 => ?_)
      unfold clrG
      rw [if_pos (by omega)]; rfl
    rw [this, sumR_z]
theorem sumR_le {f g : Int → Int} : ∀ (n : Nat) (x : Int), (∀ j, x ≤ j → j < x + n → f j ≤ g j) → sumR f n x ≤ sumR g n x := by
  intro n
  induction n with
  | zero => intro x _; exact Int.le_refl _
  | succ n ih =>
    intro x h
    simp only [sumR]
    have h1 := h x (by omega) (by omega)
    have h2 := ih (x + 1) (fun j h3 h4 => h j (by omega) (by omega))
    omega
/-- needs: between nought and all that are there; the roof itself is left as it was -/
theorem needs_f {S : RS} {M : SM} (hg : Good S M) (row from9 wide : Int) : 0 ≤ (wayF S row from9 wide).1 ∧ (wayF S row from9 wide).1 ≤ S.there ∧ Good (wayF S row from9 wide).2 M ∧ (1 ≤ wide → (wayF S row from9 wide).1 = 0 → isFreeF S row from9 wide = true) := by
  obtain ⟨hB, hW, hR⟩ := hg
  obtain ⟨b1, b2, b3⟩ := way_b hB hW row wide.toNat from9 _ (way_0 hB)
  obtain ⟨c1, c2⟩ := way_d hB hW (8 - row).toNat row _ b1
  have ew : wayD (8 - row).toNat row (wayB row wide.toNat from9 (0, S.s_goe (clrG 200 S.goe))) = wayF S row from9 wide := rfl
  rw [ew] at c1 c2
  obtain ⟨G, e, h1, h2, h3⟩ := c1
  have hr := sumR_rb (g := fun s => decide (G s = 1)) S.laid.toNat 0
  have hle : sumR (fun s => bI (decide (G s = 1))) S.laid.toNat 0 ≤ S.there := by
    rw [hW.2.2.2.1.1]
    refine sumR_le _ _ (fun j j0 j1 => ?_)
    by_cases q : G j = 1
    · rw [decide_eq_true q, decide_eq_true (h2 j j0 (by omega) q)]; exact Int.le_refl _
    · rw [decide_eq_false q]; cases decide (S.onr j = 1) <;> simp [bI]
  refine ⟨by omega, by omega, by rw [e]; exact good_eqR (eqR_goe S G) (hB.s_goe h1) ⟨hB, hW, hR⟩, fun hw h0 => ?_⟩
  have hnone : ∀ s, 0 ≤ s → s < S.laid → ¬ G s = 1 := by
    intro s s0 s1 q
    have : 1 ≤ sumR (fun s => bI (decide (G s = 1))) S.laid.toNat 0 := sumR_any (g := fun s => decide (G s = 1)) _ _ ((anyR_iff _ _).mpr ⟨s, s0, by omega, decide_eq_true q⟩)
    omega
  unfold isFreeF
  rw [allR_iff]
  intro x x0 x1
  have key : ∀ y, (y = row ∨ y = row + 1) → numberAtF S x y = -1 := by
    intro y hy
    by_cases q : numberAtF S x y = -1
    · exact q
    · have a := num_lt hW (x := x) (y := y) rfl q
      have b := b3 x x0 x1 (numberAtF S x y) (by rcases hy with u | u <;> subst u; exact Or.inl rfl; exact Or.inr rfl) q
      have c := c2 _ a.1 a.2 b
      rw [e] at c
      exact absurd c (hnone _ a.1 a.2)
  rw [key row (Or.inl rfl), key (row + 1) (Or.inr rfl)]
  rfl
/-- where nothing lies, nothing is in the way -/
theorem needs_0 {S : RS} (hB : RB S) (hW : WF S) {row from9 wide : Int} (hf : isFreeF S row from9 wide = true) : (wayF S row from9 wide).1 = 0 := by
  have hl := hB.laid_r
  have hfree : ∀ x, from9 ≤ x → x < from9 + wide.toNat → numberAtF S x row = -1 ∧ numberAtF S x (row + 1) = -1 := by
    intro x x0 x1
    have := (allR_iff _ _).mp hf x x0 x1
    rw [Bool.and_eq_true, decide_eq_true_eq, decide_eq_true_eq] at this
    exact this
  have hone : ∀ x y, numberAtF S x y = -1 → wayOne (0, S.s_goe (clrG 200 S.goe)) x y = (0, S.s_goe (clrG 200 S.goe)) := by
    intro x y h
    unfold wayOne
    dsimp only
    rw [num_goe, h]
    have hl : letsF (S.s_goe (clrG 200 S.goe)) (-1) = false := by unfold letsF isKnownF; rw [decide_eq_false (by omega)]; rfl
    unfold letGoF
    rw [hl]; rfl
  have hb : ∀ (n : Nat) (x : Int), from9 ≤ x → x + n = from9 + wide.toNat → wayB row n x (0, S.s_goe (clrG 200 S.goe)) = (0, S.s_goe (clrG 200 S.goe)) := by
    intro n
    induction n with
    | zero => intro x _ _; rfl
    | succ n ih =>
      intro x h0 h1
      have q := hfree x h0 (by omega)
      simp only [wayB]
      rw [hone x row q.1, hone x (row + 1) q.2]
      exact ih (x + 1) (by omega) (by omega)
  have hgo : ∀ x y, goingF (S.s_goe (clrG 200 S.goe)) (numberAtF (S.s_goe (clrG 200 S.goe)) x y) = false := by
    intro x y
    generalize numberAtF (S.s_goe (clrG 200 S.goe)) x y = k
    unfold goingF
    cases hk : isKnownF (S.s_goe (clrG 200 S.goe)) k
    · rfl
    · rw [Bool.true_and]
      have := isKnownF_t hk
      refine decide_eq_false ?_
      show ¬ clrG 200 S.goe k = 1
      unfold clrG
      rw [if_pos (by omega)]; omega
  have hc : ∀ (y : Int) (n : Nat) (x : Int), wayC y n x (0, S.s_goe (clrG 200 S.goe)) = (0, S.s_goe (clrG 200 S.goe)) := by
    intro y n
    induction n with
    | zero => intro x; rfl
    | succ n ih => intro x; simp only [wayC]; rw [hgo]; exact ih (x + 1)
  have hd : ∀ (n : Nat) (y : Int), wayD n y (0, S.s_goe (clrG 200 S.goe)) = (0, S.s_goe (clrG 200 S.goe)) := by
    intro n
    induction n with
    | zero => intro y; rfl
    | succ n ih => intro y; simp only [wayD]; rw [hc]; exact ih (y + 1)
  unfold wayF
  rw [hb _ _ (Int.le_refl _) rfl, hd]
def bestOk (S : RS) (b : Int) : Prop := b = -1 ∨ ∃ row x, b = 100 * row + x ∧ (0 ≤ row ∧ row < 8) ∧ (0 ≤ x ∧ x ≤ 8) ∧ isFreeF S row x 4 = true
theorem best_f (S : RS) (f : Int → Int) : bestOk S (bestF S f).2.1 := by
  have h1 : ∀ (row : Int), 0 ≤ row → row < 8 → ∀ (n : Nat) (x : Int) (B : BS), 0 ≤ x → x + n ≤ 9 → bestOk S B.2.1 → bestOk S (bestL S row n x B).2.1 := by
    intro row r0 r1 n
    induction n with
    | zero => intro x B _ _ h; exact h
    | succ n ih =>
      intro x B x0 x1 h
      simp only [bestL]
      refine ih (x + 1) _ (by omega) (by omega) ?_
      unfold bestOne
      cases hf : isFreeF S row x 4
      · exact h
      · rw [cond_true]
        split
        · exact Or.inr ⟨row, x, rfl, ⟨r0, r1⟩, ⟨x0, by omega⟩, hf⟩
        · exact h
  have h2 : ∀ (n : Nat) (y : Int) (B : BS), 0 ≤ y → y + n ≤ 8 → bestOk S B.2.1 → bestOk S (bestM S n y B).2.1 := by
    intro n
    induction n with
    | zero => intro y B _ _ h; exact h
    | succ n ih =>
      intro y B y0 y1 h
      simp only [bestM]
      exact ih (y + 1) _ (by omega) (by omega) (h1 y y0 (by omega) 9 0 B (by omega) (by omega) h)
  exact h2 8 0 _ (by omega) (by omega) (Or.inl rfl)
theorem inD_r {c : Int → Bool} {rain : Int} (h : 0 ≤ rain) : ∀ d, 0 ≤ inD c rain d := by
  intro d
  induction d with
  | zero => simp only [inD]; cases c 7 <;> simp only [cond_true, cond_false] <;> omega
  | succ d ih =>
    simp only [inD]
    cases c (7 - ((d + 1 : Nat) : Int))
    · simp only [cond_false]; rw [Int.tdiv_eq_ediv_of_nonneg ih]; omega
    · simp only [cond_true]; omega
theorem inD_mono {c c' : Int → Bool} {rain : Int} (h : 0 ≤ rain) (hc : ∀ y, c y = true → c' y = true) : ∀ d, inD c' rain d ≤ inD c rain d := by
  intro d
  have aux : ∀ y, c' y = false → c y = false := fun y q => by
    cases e : c y
    · rfl
    · rw [hc y e] at q; cases q
  induction d with
  | zero =>
    simp only [inD]
    cases h1 : c' 7
    · rw [aux _ h1]; exact Int.le_refl _
    · cases c 7 <;> simp only [cond_true, cond_false] <;> omega
  | succ d ih =>
    have r1 := inD_r (c := c) h d
    have r2 := inD_r (c := c') h d
    have r3 := inD_r (c := c) h (d + 1)
    simp only [inD] at r3 ⊢
    cases h1 : c' (7 - ((d + 1 : Nat) : Int))
    · rw [aux _ h1]
      simp only [cond_false]
      rw [Int.tdiv_eq_ediv_of_nonneg r1, Int.tdiv_eq_ediv_of_nonneg r2]
      omega
    · rw [cond_true]; exact r3
/-- a slate more lets no more in -/
theorem leak_add (M : SM) (row from9 wide nails : Int) : leakS (addS M row from9 wide nails) 9 ≤ leakS M 9 := by
  have hc : ∀ x y, covS M x y = true → covS (addS M row from9 wide nails) x y = true := by
    intro x y h
    unfold covS at h ⊢
    rw [anyR_iff] at h ⊢
    obtain ⟨k, k0, k1, k2⟩ := h
    refine ⟨k, k0, by show k < 0 + ((M.n + 1 : Nat) : Int); omega, ?_⟩
    have : (addS M row from9 wide nails).sl k = M.sl k := if_neg (by omega)
    rw [this]; exact k2
  unfold leakS
  refine sumR_le _ _ (fun x _ _ => sumR_le _ _ (fun d _ _ => ?_))
  rw [comes_in, comes_in]
  exact inD_mono (by omega) (fun y => hc x y) _
