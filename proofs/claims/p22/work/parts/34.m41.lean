/-! ===== the law's own roof: its picture ===== -/
/-- how many slates; slates, rot, days by rows; the day; how many were taken -/
abbrev SM : Type := Nat × (Int → Int → Int) × (Int → Int → Int) × (Int → Int → Int) × Int × Int
abbrev SM.n (M : SM) : Nat := M.1
abbrev SM.sl (M : SM) : Int → Int → Int := M.2.1
abbrev SM.rt (M : SM) : Int → Int → Int := M.2.2.1
abbrev SM.dy (M : SM) : Int → Int → Int := M.2.2.2.1
abbrev SM.day (M : SM) : Int := M.2.2.2.2.1
abbrev SM.tk (M : SM) : Int := M.2.2.2.2.2
abbrev SM.s_sl (M : SM) (v : Int → Int → Int) : SM := (M.n, v, M.rt, M.dy, M.day, M.tk)
abbrev SM.s_rt (M : SM) (v : Int → Int → Int) : SM := (M.n, M.sl, v, M.dy, M.day, M.tk)
abbrev SM.s_dy (M : SM) (v : Int → Int → Int) : SM := (M.n, M.sl, M.rt, v, M.day, M.tk)
abbrev SM.s_day (M : SM) (v : Int) : SM := (M.n, M.sl, M.rt, M.dy, v, M.tk)
abbrev SM.s_tk (M : SM) (v : Int) : SM := (M.n, M.sl, M.rt, M.dy, M.day, v)
/-- where its rows lie -/
abbrev SN : Type := Nat × (Int → Option Nat) × Nat × (Int → Option Nat) × Nat × (Int → Option Nat)
/-- a slate's six numbers -/
def slB (f : Int → Int) : Prop := (0 ≤ f 0 ∧ f 0 ≤ 7) ∧ (0 ≤ f 1 ∧ 0 ≤ f 2 ∧ f 2 ≤ 4 ∧ f 1 + f 2 ≤ 12) ∧ (0 ≤ f 3 ∧ f 3 ≤ 3) ∧ (f 4 = 0 ∨ f 4 = 1) ∧ (f 5 = 0 ∨ f 5 = 1)
def dyB (f : Int → Int) : Prop := (0 ≤ f 0 ∧ f 0 ≤ 20) ∧ (f 1 = 0 ∨ f 1 = 1) ∧ (0 ≤ f 2 ∧ f 2 ≤ 9) ∧ (0 ≤ f 3 ∧ f 3 ≤ 9)
def MB (M : SM) : Prop := (∀ k, slB (M.sl k)) ∧ (∀ x y, 0 ≤ M.rt x y ∧ M.rt x y ≤ 9) ∧ (∀ k, dyB (M.dy k)) ∧ M.n ≤ 200 ∧ (0 ≤ M.day ∧ M.day ≤ 1000) ∧ (0 ≤ M.tk ∧ M.tk ≤ 100000)
def rowsAt (h : AH) (w n : Nat) (f : Int → Option Nat) (g : Int → Int → Int) : Prop :=
  (∀ k, 0 ≤ k → k < (n : Int) → ∃ q, f k = some q ∧ h q = some (.inr (.inl (0, w, g k)))) ∧ (∀ k, (k < 0 ∨ (n : Int) ≤ k) → f k = none ∧ g k = fun _ => 0) ∧ ∀ i j q, f i = some q → f j = some q → i = j
def simAt (h : AH) (a : Nat) (P : SN × SM) : Prop := MB P.2 ∧ h a = some (.inl (4, [.inr (.inl (some P.1.1)), .inr (.inl (some P.1.2.2.1)), .inr (.inl (some P.1.2.2.2.2.1)), .inl P.2.day, .inl P.2.tk])) ∧
  [P.1.1, P.1.2.2.1, P.1.2.2.2.2.1].Nodup ∧ h P.1.1 = some (.inr (.inr (3, P.2.n, P.1.2.1))) ∧ h P.1.2.2.1 = some (.inr (.inr (3, 12, P.1.2.2.2.1))) ∧ h P.1.2.2.2.2.1 = some (.inr (.inr (3, 7, P.1.2.2.2.2.2))) ∧
  rowsAt h 6 P.2.n P.1.2.1 P.2.sl ∧ rowsAt h 8 12 P.1.2.2.2.1 P.2.rt ∧ rowsAt h 4 7 P.1.2.2.2.2.2 P.2.dy
theorem rows_some {h : AH} {w n : Nat} {f : Int → Option Nat} {g : Int → Int → Int} (h1 : rowsAt h w n f g) {k : Int} {q : Nat} (hq : f k = some q) : (0 ≤ k ∧ k < (n : Int)) ∧ h q = some (.inr (.inl (0, w, g k))) := by
  have hk : 0 ≤ k ∧ k < (n : Int) := by
    by_cases hk : k < 0 ∨ (n : Int) ≤ k
    · rw [(h1.2.1 k hk).1] at hq; cases hq
    · omega
  obtain ⟨q', e1, e2⟩ := h1.1 k hk.1 hk.2
  cases hq.symm.trans e1
  exact ⟨hk, e2⟩
theorem rows_uni {h : AH} {w n : Nat} {f : Int → Option Nat} {g g' : Int → Int → Int} (h1 : rowsAt h w n f g) (h2 : rowsAt h w n f g') : g = g' := by
  funext k
  by_cases hk : k < 0 ∨ (n : Int) ≤ k
  · rw [(h1.2.1 k hk).2, (h2.2.1 k hk).2]
  · obtain ⟨q, e1, e2⟩ := h1.1 k (by omega) (by omega)
    obtain ⟨q', e3, e4⟩ := h2.1 k (by omega) (by omega)
    cases e1.symm.trans e3
    have := e2.symm.trans e4
    simp only [Option.some.injEq, Sum.inr.injEq, Sum.inl.injEq, Prod.mk.injEq, true_and] at this
    exact this
theorem sim_uni {h : AH} {a : Nat} : ∀ P P' : SN × SM, simAt h a P → simAt h a P' → P = P' := by
  rintro ⟨⟨sA, fS, rA, fR, dA, fD⟩, n, sl, rt, dy, day, tk⟩ ⟨⟨sA', fS', rA', fR', dA', fD'⟩, n', sl', rt', dy', day', tk'⟩ ⟨-, c, -, c0, c1, c2, r0, r1, r2⟩ ⟨-, d, -, d0, d1, d2, s0, s1, s2⟩
  have hc := c.symm.trans d
  simp only [Option.some.injEq, Sum.inl.injEq, Sum.inr.injEq, Prod.mk.injEq, List.cons.injEq, true_and, and_true] at hc
  obtain ⟨rfl, rfl, rfl, rfl, rfl⟩ := hc
  have e0 := c0.symm.trans d0
  have e1 := c1.symm.trans d1
  have e2 := c2.symm.trans d2
  simp only [Option.some.injEq, Sum.inr.injEq, Prod.mk.injEq, true_and] at e0 e1 e2
  obtain ⟨rfl, rfl⟩ := e0
  subst e1
  subst e2
  have g0 : sl = sl' := rows_uni r0 s0
  have g1 : rt = rt' := rows_uni r1 s1
  have g2 : dy = dy' := rows_uni r2 s2
  rw [g0, g1, g2]
noncomputable def ab_sim (h : AH) (a : Nat) : Option (SN × SM) := ab_pk (simAt h a)
theorem sim_of {h : AH} {a : Nat} {P : SN × SM} (h1 : simAt h a P) : ab_sim h a = some P := pk_of sim_uni h1
theorem sim_el {h : AH} {a : Nat} {P : SN × SM} (h1 : ab_sim h a = some P) : simAt h a P := pk_el h1
/-- its cells -/
def simIn (N : SN) (a b : Nat) : Prop := b = a ∨ b = N.1 ∨ b = N.2.2.1 ∨ b = N.2.2.2.2.1 ∨ (∃ k, N.2.1 k = some b) ∨ (∃ k, N.2.2.2.1 k = some b) ∨ ∃ k, N.2.2.2.2.2 k = some b
theorem rows_keep {h h' : AH} {w n : Nat} {f : Int → Option Nat} {g : Int → Int → Int} (h1 : rowsAt h w n f g) (h2 : ∀ k q, f k = some q → h' q = h q) : rowsAt h' w n f g :=
  ⟨fun k k0 k1 => by
    obtain ⟨q, e1, e2⟩ := h1.1 k k0 k1
    exact ⟨q, e1, (h2 k q e1).trans e2⟩, h1.2.1, h1.2.2⟩
theorem sim_keep {h h' : AH} {a : Nat} {P : SN × SM} (h1 : simAt h a P) (h2 : ∀ b, simIn P.1 a b → h' b = h b) : simAt h' a P := by
  obtain ⟨m, c, nd, c0, c1, c2, r0, r1, r2⟩ := h1
  exact ⟨m, (h2 _ (Or.inl rfl)).trans c, nd, (h2 _ (Or.inr (Or.inl rfl))).trans c0, (h2 _ (Or.inr (Or.inr (Or.inl rfl)))).trans c1, (h2 _ (Or.inr (Or.inr (Or.inr (Or.inl rfl))))).trans c2,
    rows_keep r0 (fun k q e => h2 _ (Or.inr (Or.inr (Or.inr (Or.inr (Or.inl ⟨k, e⟩)))))), rows_keep r1 (fun k q e => h2 _ (Or.inr (Or.inr (Or.inr (Or.inr (Or.inr (Or.inl ⟨k, e⟩))))))), rows_keep r2 (fun k q e => h2 _ (Or.inr (Or.inr (Or.inr (Or.inr (Or.inr (Or.inr ⟨k, e⟩)))))))⟩
/-- every cell of it is one of these kinds -/
theorem sim_kind {h : AH} {a : Nat} {P : SN × SM} (h1 : simAt h a P) {b : Nat} (hb : simIn P.1 a b) : (∃ fs, h b = some (.inl (4, fs))) ∨ (∃ n f, h b = some (.inr (.inr (3, n, f)))) ∨ ∃ w f, h b = some (.inr (.inl (0, w, f))) ∧ (w = 6 ∨ w = 8 ∨ w = 4) := by
  obtain ⟨m, c, nd, c0, c1, c2, r0, r1, r2⟩ := h1
  rcases hb with rfl | rfl | rfl | rfl | ⟨k, e⟩ | ⟨k, e⟩ | ⟨k, e⟩
  · exact Or.inl ⟨_, c⟩
  · exact Or.inr (Or.inl ⟨_, _, c0⟩)
  · exact Or.inr (Or.inl ⟨_, _, c1⟩)
  · exact Or.inr (Or.inl ⟨_, _, c2⟩)
  · exact Or.inr (Or.inr ⟨_, _, (rows_some r0 e).2, Or.inl rfl⟩)
  · exact Or.inr (Or.inr ⟨_, _, (rows_some r1 e).2, Or.inr (Or.inl rfl)⟩)
  · exact Or.inr (Or.inr ⟨_, _, (rows_some r2 e).2, Or.inr (Or.inr rfl)⟩)
theorem sim_nn {h : AH} {a : Nat} {P : SN × SM} (h1 : simAt h a P) {b : Nat} (hb : simIn P.1 a b) : h b ≠ none := by
  rcases sim_kind h1 hb with ⟨fs, e⟩ | ⟨n, f, e⟩ | ⟨w, f, e, -⟩ <;> rw [e] <;> exact fun q => by cases q
/-- nothing that was there has changed, but for these cells -/
def ab_fo (h h' : AH) (L : Nat → Prop) : Prop := ∀ b, ¬ L b → h b ≠ none → h' b = h b
theorem ab_fo.rf {h : AH} {L : Nat → Prop} : ab_fo h h L := fun _ _ _ => rfl
theorem ab_fo.nn {h h' : AH} {L : Nat → Prop} (h1 : ab_fo h h' L) {b : Nat} (hb : ¬ L b) (hn : h b ≠ none) : h' b ≠ none := by rw [h1 b hb hn]; exact hn
theorem ab_fo.tr {h h1 h2 : AH} {L : Nat → Prop} (h12 : ab_fo h h1 L) (h23 : ab_fo h1 h2 L) : ab_fo h h2 L := fun b hb hn => (h23 b hb (by rw [h12 b hb hn]; exact hn)).trans (h12 b hb hn)
theorem ab_fo.up {h h' : AH} {L : Nat → Prop} {a : Nat} {c : AC} (hf : ab_fo h h' L) (ha : L a ∨ h' a = none) : ab_fo h (ab_up h' a c) L := by
  intro b hb hn
  rw [ab_up_ap]
  by_cases hba : b = a
  · subst hba
    rcases ha with ha | ha
    · exact absurd ha hb
    · rw [hf b hb hn] at ha; exact absurd ha hn
  · rw [if_neg hba]; exact hf b hb hn
theorem ab_fo.sub {h h1 : AH} {L L' : Nat → Prop} (h12 : ab_fo h h1 L) (hs : ∀ b, L b → L' b) : ab_fo h h1 L' := fun b hb => h12 b (fun q => hb (hs b q))
theorem ab_fo.of {h h1 : AH} {L : List Nat} {L' : Nat → Prop} (h12 : ab_fr h h1 L) (hs : ∀ b ∈ L, L' b) : ab_fo h h1 L' := fun b hb _ => h12 b (fun q => hb (hs b q))
/-- a new cell does it no harm -/
theorem sim_new {h : AH} {a b : Nat} {P : SN × SM} {c : AC} (h1 : simAt h a P) (hb : h b = none) : simAt (ab_up h b c) a P :=
  sim_keep h1 (fun q hq => by
    rw [ab_up_ap, if_neg]
    rintro rfl
    exact sim_nn h1 hq hb)
theorem rows_set {h : AH} {w n : Nat} {f : Int → Option Nat} {g : Int → Int → Int} (h1 : rowsAt h w n f g) {k : Int} {q : Nat} (hq : f k = some q) (v : Int → Int) : rowsAt (ab_up h q (.inr (.inl (0, w, v)))) w n f (ab_uf g k v) := by
  have hk := (rows_some h1 hq).1
  refine ⟨fun j j0 j1 => ?_, fun j hj => ?_, h1.2.2⟩
  · obtain ⟨p, e1, e2⟩ := h1.1 j j0 j1
    refine ⟨p, e1, ?_⟩
    rw [ab_up_ap]
    by_cases hp : p = q
    · subst hp
      have := h1.2.2 _ _ _ e1 hq
      subst this
      rw [if_pos rfl]
      simp [ab_uf]
    · rw [if_neg hp, e2]
      have : ¬ j = k := fun e => by subst e; exact hp (Option.some.inj (e1.symm.trans hq))
      simp [ab_uf, this]
  · refine ⟨(h1.2.1 j hj).1, ?_⟩
    have : ¬ j = k := by omega
    simp only [ab_uf, this, if_false]
    exact (h1.2.1 j hj).2
theorem rows_oth {h : AH} {w n w' q : Nat} {f : Int → Option Nat} {g : Int → Int → Int} {v u : Int → Int} (h1 : rowsAt h w n f g) (hq : h q = some (.inr (.inl (0, w', v)))) (hw : ¬ w = w') : rowsAt (ab_up h q (.inr (.inl (0, w', u)))) w n f g :=
  rows_keep h1 (fun k p e => by
    rw [ab_up_ap, if_neg]
    rintro rfl
    have := (rows_some h1 e).2.symm.trans hq
    simp only [Option.some.injEq, Sum.inr.injEq, Sum.inl.injEq, Prod.mk.injEq, true_and] at this
    exact hw this.1)
theorem rows_ref {h : AH} {w n a : Nat} {f : Int → Option Nat} {g : Int → Int → Int} {c c' : AC} (h1 : rowsAt h w n f g) (ha : h a = some c) (hc : ∀ w f, ¬ c = .inr (.inl (0, w, f))) : rowsAt (ab_up h a c') w n f g :=
  rows_keep h1 (fun k p e => by
    rw [ab_up_ap, if_neg]
    rintro rfl
    have := (rows_some h1 e).2.symm.trans ha
    exact hc _ _ (Option.some.inj this).symm)
theorem sim_sl {h : AH} {a : Nat} {N : SN} {M : SM} (h1 : simAt h a (N, M)) {k : Int} {q : Nat} (hq : N.2.1 k = some q) {v : Int → Int} (hv : slB v) : simAt (ab_up h q (.inr (.inl (0, 6, v)))) a (N, M.s_sl (ab_uf M.sl k v)) := by
  obtain ⟨sA, fS, rA, fR, dA, fD⟩ := N
  obtain ⟨m, c, nd, c0, c1, c2, r0, r1, r2⟩ := h1
  have hc := (rows_some r0 hq).2
  have ne : ∀ b c', h b = some c' → (∀ w f, ¬ c' = .inr (.inl (0, w, f))) → ab_up h q (.inr (.inl (0, 6, v))) b = h b := fun b c' e1 e2 => by
    rw [ab_up_ap, if_neg]
    rintro rfl
    exact e2 _ _ (Option.some.inj (e1.symm.trans hc))
  refine ⟨⟨fun j => ?_, m.2⟩, (ne _ _ c (fun _ _ e => by cases e)).trans c, nd, (ne _ _ c0 (fun _ _ e => by cases e)).trans c0, (ne _ _ c1 (fun _ _ e => by cases e)).trans c1, (ne _ _ c2 (fun _ _ e => by cases e)).trans c2, rows_set r0 hq v, rows_oth r1 hc (by decide), rows_oth r2 hc (by decide)⟩
  show slB (ab_uf M.sl k v j)
  simp only [ab_uf]
  split
  · exact hv
  · exact m.1 j
theorem sim_rt {h : AH} {a : Nat} {N : SN} {M : SM} (h1 : simAt h a (N, M)) {k : Int} {q : Nat} (hq : N.2.2.2.1 k = some q) {v : Int → Int} (hv : ∀ y, 0 ≤ v y ∧ v y ≤ 9) : simAt (ab_up h q (.inr (.inl (0, 8, v)))) a (N, M.s_rt (ab_uf M.rt k v)) := by
  obtain ⟨sA, fS, rA, fR, dA, fD⟩ := N
  obtain ⟨m, c, nd, c0, c1, c2, r0, r1, r2⟩ := h1
  have hc := (rows_some r1 hq).2
  have ne : ∀ b c', h b = some c' → (∀ w f, ¬ c' = .inr (.inl (0, w, f))) → ab_up h q (.inr (.inl (0, 8, v))) b = h b := fun b c' e1 e2 => by
    rw [ab_up_ap, if_neg]
    rintro rfl
    exact e2 _ _ (Option.some.inj (e1.symm.trans hc))
  refine ⟨⟨m.1, fun x y => ?_, m.2.2⟩, (ne _ _ c (fun _ _ e => by cases e)).trans c, nd, (ne _ _ c0 (fun _ _ e => by cases e)).trans c0, (ne _ _ c1 (fun _ _ e => by cases e)).trans c1, (ne _ _ c2 (fun _ _ e => by cases e)).trans c2, rows_oth r0 hc (by decide), rows_set r1 hq v, rows_oth r2 hc (by decide)⟩
  show 0 ≤ ab_uf M.rt k v x y ∧ ab_uf M.rt k v x y ≤ 9
  simp only [ab_uf]
  split
  · exact hv y
  · exact m.2.1 x y
theorem sim_dy {h : AH} {a : Nat} {N : SN} {M : SM} (h1 : simAt h a (N, M)) {k : Int} {q : Nat} (hq : N.2.2.2.2.2 k = some q) {v : Int → Int} (hv : dyB v) : simAt (ab_up h q (.inr (.inl (0, 4, v)))) a (N, M.s_dy (ab_uf M.dy k v)) := by
  obtain ⟨sA, fS, rA, fR, dA, fD⟩ := N
  obtain ⟨m, c, nd, c0, c1, c2, r0, r1, r2⟩ := h1
  have hc := (rows_some r2 hq).2
  have ne : ∀ b c', h b = some c' → (∀ w f, ¬ c' = .inr (.inl (0, w, f))) → ab_up h q (.inr (.inl (0, 4, v))) b = h b := fun b c' e1 e2 => by
    rw [ab_up_ap, if_neg]
    rintro rfl
    exact e2 _ _ (Option.some.inj (e1.symm.trans hc))
  refine ⟨⟨m.1, m.2.1, fun j => ?_, m.2.2.2⟩, (ne _ _ c (fun _ _ e => by cases e)).trans c, nd, (ne _ _ c0 (fun _ _ e => by cases e)).trans c0, (ne _ _ c1 (fun _ _ e => by cases e)).trans c1, (ne _ _ c2 (fun _ _ e => by cases e)).trans c2, rows_oth r0 hc (by decide), rows_oth r1 hc (by decide), rows_set r2 hq v⟩
  show dyB (ab_uf M.dy k v j)
  simp only [ab_uf]
  split
  · exact hv
  · exact m.2.2.1 j
theorem sim_obj {h : AH} {a : Nat} {N : SN} {M : SM} (h1 : simAt h a (N, M)) {d t : Int} (hd : 0 ≤ d ∧ d ≤ 1000) (ht : 0 ≤ t ∧ t ≤ 100000) : simAt (ab_up h a (.inl (4, [.inr (.inl (some N.1)), .inr (.inl (some N.2.2.1)), .inr (.inl (some N.2.2.2.2.1)), .inl d, .inl t]))) a (N, (M.n, M.sl, M.rt, M.dy, d, t)) := by
  obtain ⟨sA, fS, rA, fR, dA, fD⟩ := N
  obtain ⟨m, c, nd, c0, c1, c2, r0, r1, r2⟩ := h1
  have ne : ∀ b c' q9, h b = some c' → (∀ w f, ¬ c' = .inl (w, f)) → ab_up h a q9 b = h b := fun b c' q9 e1 e2 => by
    rw [ab_up_ap, if_neg]
    rintro rfl
    exact e2 _ _ (Option.some.inj (e1.symm.trans c))
  exact ⟨⟨m.1, m.2.1, m.2.2.1, m.2.2.2.1, hd, ht⟩, ab_up_eq _ _ _, nd, (ne _ _ _ c0 (fun _ _ e => by cases e)).trans c0, (ne _ _ _ c1 (fun _ _ e => by cases e)).trans c1, (ne _ _ _ c2 (fun _ _ e => by cases e)).trans c2, rows_ref r0 c (fun _ _ e => by cases e), rows_ref r1 c (fun _ _ e => by cases e), rows_ref r2 c (fun _ _ e => by cases e)⟩
