/-! ===== the whole object ===== -/
theorem obj_roof {h : AH} {a r : Nat} {fs : List AV} {ns : List Nat} {S : RS} (h1 : h a = some (.inl (3, fs))) (h2 : ab_roof h r = some (ns, S)) : a ∉ r :: ns := by
  obtain ⟨hB, n0, n1, n2, n3, n4, n5, n6, n7, n8, rfl, nd, c, c0, c1, c2, c3, c4, c5, c6, c7, c8⟩ := roof_el h2
  intro hq
  simp only [List.mem_cons, List.not_mem_nil, or_false] at hq
  rcases hq with rfl | rfl | rfl | rfl | rfl | rfl | rfl | rfl | rfl | rfl <;> simp_all
theorem obj_cov {h : AH} {a c : Nat} {fs : List AV} {P : Nat × (Int → Int)} (h1 : h a = some (.inl (3, fs))) (h2 : ab_cov h c = some P) : a ∉ [c, P.1] := by
  obtain ⟨-, -, d, d0⟩ := cov_el h2
  intro hq
  simp only [List.mem_cons, List.not_mem_nil, or_false] at hq
  rcases hq with rfl | rfl <;> simp_all
theorem obj_tab {h : AH} {a b : Nat} {fs : List AV} {P : (Nat × Nat × Nat × Nat) × TS} (h1 : h a = some (.inl (3, fs))) (h2 : ab_tab h b = some P) : a ∉ [b, P.1.1, P.1.2.1, P.1.2.2.1, P.1.2.2.2] := by
  obtain ⟨-, -, d, d0, d1, d2, d3⟩ := tab_el h2
  intro hq
  simp only [List.mem_cons, List.not_mem_nil, or_false] at hq
  rcases hq with rfl | rfl | rfl | rfl | rfl <;> simp_all
theorem tab_roof {h : AH} {b r : Nat} {P : (Nat × Nat × Nat × Nat) × TS} {ns : List Nat} {S : RS} (h1 : ab_tab h b = some P) (h2 : ab_roof h r = some (ns, S)) : ∀ q, q ∈ r :: ns → q ∈ [b, P.1.1, P.1.2.1, P.1.2.2.1, P.1.2.2.2] → False := by
  obtain ⟨⟨a0, a1, a2, a3⟩, T0, T1, T2, T3⟩ := P
  obtain ⟨-, -, d, d0, d1, d2, d3⟩ := tab_el h1
  dsimp only at d d0 d1 d2 d3
  obtain ⟨hB, n0, n1, n2, n3, n4, n5, n6, n7, n8, rfl, nd, c, c0, c1, c2, c3, c4, c5, c6, c7, c8⟩ := roof_el h2
  intro q hq hr
  simp only [List.mem_cons, List.not_mem_nil, or_false] at hq hr
  rcases hr with rfl | rfl | rfl | rfl | rfl <;> rcases hq with rfl | rfl | rfl | rfl | rfl | rfl | rfl | rfl | rfl | rfl <;> simp_all
theorem tab_cov {h : AH} {b c : Nat} {P : (Nat × Nat × Nat × Nat) × TS} {Q : Nat × (Int → Int)} (h1 : ab_tab h b = some P) (h2 : ab_cov h c = some Q) : ∀ q, q ∈ [c, Q.1] → q ∈ [b, P.1.1, P.1.2.1, P.1.2.2.1, P.1.2.2.2] → False := by
  obtain ⟨⟨a0, a1, a2, a3⟩, T0, T1, T2, T3⟩ := P
  obtain ⟨c1, f1⟩ := Q
  obtain ⟨-, -, d, d0, d1, d2, d3⟩ := tab_el h1
  dsimp only at d d0 d1 d2 d3
  obtain ⟨-, -, g, g0⟩ := cov_el h2
  intro q hq hr
  simp only [List.mem_cons, List.not_mem_nil, or_false] at hq hr
  rcases hr with rfl | rfl | rfl | rfl | rfl <;> rcases hq with rfl | rfl <;> simp_all
/-! ===== days going by ===== -/
theorem removeF_day (S : RS) (s : Int) : (removeF S s).day = S.day := by
  unfold removeF
  cases isThereF S s <;> rfl
theorem remL_day : ∀ (n : Nat) (x : Int) (S : RS), (remL n x S).day = S.day := by
  intro n
  induction n with
  | zero => intro x S; rfl
  | succ n ih =>
    intro x S
    simp only [remL]
    rw [ih]
    split
    · rfl
    · exact removeF_day S x
theorem blowL_day (f r : Int) : ∀ (n : Nat) (rd : Int) (S : RS), (blowL f r n rd S).2.day = S.day := by
  intro n
  induction n with
  | zero => intro rd S; rfl
  | succ n ih =>
    intro rd S
    simp only [blowL]
    split
    · rfl
    · rw [ih]
      exact remL_day _ _ (markF S f r)
theorem blowF_day (S : RS) (f r : Int) : (blowF S f r).2.day = S.day := by
  unfold blowF
  split
  · rfl
  · exact blowL_day f r _ _ S
theorem setRotF_day (S : RS) (x y v : Int) : (setRotF S x y v).day = S.day := by
  unfold setRotF
  cases isPlaceF x y <;> rfl
theorem rtCol_day (f : Int → Int) (rain x : Int) : ∀ (n : Nat) (row acc : Int) (S : RS), (rtCol f rain x n row acc S).day = S.day := by
  intro n
  induction n with
  | zero => intro row acc S; rfl
  | succ n ih =>
    intro row acc S
    simp only [rtCol]
    rw [ih, rtOne]
    split
    · rfl
    · exact setRotF_day _ _ _ _
theorem rtL_day (f : Int → Int) (rain : Int) : ∀ (n : Nat) (x : Int) (S : RS), (rtL f rain n x S).day = S.day := by
  intro n
  induction n with
  | zero => intro x S; rfl
  | succ n ih =>
    intro x S
    simp only [rtL]
    rw [ih, rtCol_day]
/-- one day: what is covered, the roof -/
def goA (T : TS) (S : RS) : RS := crackF (blowF S (dayF T.1 (S.day % 7)) (dayF T.2.1 (S.day % 7))).2 (dayF T.2.2.1 (S.day % 7))
def goB (T : TS) (P : (Int → Int) × RS) : RS := rtF (goA T P.2) (rdL (goA T P.2) P.1 96) (dayF T.2.2.2 (P.2.day % 7))
def goDay (T : TS) (P : (Int → Int) × RS) : (Int → Int) × RS := (rdL (goA T P.2) P.1 96, (goB T P).s_day ((goB T P).day + 1))
theorem goA_day (T : TS) (S : RS) : (goA T S).day = S.day := blowF_day S _ _
theorem goB_day (T : TS) (P : (Int → Int) × RS) : (goB T P).day = P.2.day := (rtL_day _ _ _ _ _).trans (goA_day T P.2)
def goL (T : TS) : Nat → (Int → Int) × RS → (Int → Int) × RS
  | 0, P => P
  | n + 1, P => goL T n (goDay T P)
theorem goDay_day (T : TS) (P : (Int → Int) × RS) : (goDay T P).2.day = P.2.day + 1 := by
  show (goB T P).day + 1 = _
  rw [goB_day]
abbrev SA : Type := (Nat × List Nat) × (Nat × List Nat) × (Nat × Nat) × (Nat × (Nat × Nat × Nat × Nat))
abbrev SV : Type := RS × RS × (Int → Int) × TS
def srAt (h : AH) (a : Nat) (P : SA × SV) : Prop := h a = some (.inl (3, [.inr (.inl (some P.1.1.1)), .inr (.inl (some P.1.2.1.1)), .inr (.inl (some P.1.2.2.1.1)), .inr (.inl (some P.1.2.2.2.1))])) ∧
  ab_roof h P.1.1.1 = some (P.1.1.2, P.2.1) ∧ ab_roof h P.1.2.1.1 = some (P.1.2.1.2, P.2.2.1) ∧ ab_cov h P.1.2.2.1.1 = some (P.1.2.2.1.2, P.2.2.2.1) ∧ ab_tab h P.1.2.2.2.1 = some (P.1.2.2.2.2, P.2.2.2.2) ∧
  (∀ q, q ∈ P.1.1.1 :: P.1.1.2 → q ∈ P.1.2.1.1 :: P.1.2.1.2 → False)
theorem sr_uni {h : AH} {a : Nat} : ∀ P P', srAt h a P → srAt h a P' → P = P' := by
  rintro ⟨⟨⟨r, ns⟩, ⟨t, ms⟩, ⟨c, n⟩, b, q⟩, S, O, f, T⟩ ⟨⟨⟨r', ns'⟩, ⟨t', ms'⟩, ⟨c', n'⟩, b', q'⟩, S', O', f', T'⟩ ⟨d, d0, d1, d2, d3, -⟩ ⟨e, e0, e1, e2, e3, -⟩
  dsimp only at d d0 d1 d2 d3 e e0 e1 e2 e3
  have hc := d.symm.trans e
  simp only [Option.some.injEq, Sum.inl.injEq, Sum.inr.injEq, Prod.mk.injEq, List.cons.injEq, true_and, and_true] at hc
  obtain ⟨g0, g1, g2, g3⟩ := hc
  subst g0 g1 g2 g3
  have h0 := Option.some.inj (d0.symm.trans e0)
  have h1 := Option.some.inj (d1.symm.trans e1)
  have h2 := Option.some.inj (d2.symm.trans e2)
  have h3 := Option.some.inj (d3.symm.trans e3)
  simp only [Prod.mk.injEq] at h0 h1 h2 h3 ⊢
  simp only [h0, h1, h2, h3, and_self]
noncomputable def ab_sr (h : AH) (a : Nat) : Option (SA × SV) := ab_pk (srAt h a)
theorem sr_of {h : AH} {a : Nat} {P : SA × SV} (h1 : srAt h a P) : ab_sr h a = some P := pk_of sr_uni h1
theorem sr_el {h : AH} {a : Nat} {P : SA × SV} (h1 : ab_sr h a = some P) : srAt h a P := pk_el h1
