/-! ===== the reference's object: thrown, slates; stock, at, rot, table, numbers, marked ===== -/
abbrev MA : Type := Nat × Nat × Nat × Nat × Nat × Nat
abbrev MV : Type := Int × Int × (Int → Int) × (Int → Int) × (Int → Int) × (Int → Int) × (Int → Int) × (Int → Int)
abbrev MV.thr (v : MV) : Int := v.1
abbrev MV.sl (v : MV) : Int := v.2.1
abbrev MV.fst9 (v : MV) : Int → Int := v.2.2.1
abbrev MV.fat (v : MV) : Int → Int := v.2.2.2.1
abbrev MV.frt (v : MV) : Int → Int := v.2.2.2.2.1
abbrev MV.ftb (v : MV) : Int → Int := v.2.2.2.2.2.1
abbrev MV.fnm (v : MV) : Int → Int := v.2.2.2.2.2.2.1
abbrev MV.fmk (v : MV) : Int → Int := v.2.2.2.2.2.2.2
def mdC (B : MA) (v : MV) : List AV := [.inl v.thr, .inl v.sl, .inr (.inl (some B.1)), .inr (.inl (some B.2.1)), .inr (.inl (some B.2.2.1)), .inr (.inl (some B.2.2.2.1)), .inr (.inl (some B.2.2.2.2.1)), .inr (.inl (some B.2.2.2.2.2))]
def mdAt (h : AH) (a : Nat) (P : MA × MV) : Prop := h a = some (.inl (4, mdC P.1 P.2)) ∧ h P.1.1 = some (.inr (.inl (0, 1200, P.2.fst9))) ∧ h P.1.2.1 = some (.inr (.inl (0, 96, P.2.fat))) ∧ h P.1.2.2.1 = some (.inr (.inl (0, 96, P.2.frt))) ∧ h P.1.2.2.2.1 = some (.inr (.inl (0, 28, P.2.ftb))) ∧
  h P.1.2.2.2.2.1 = some (.inr (.inl (0, 2, P.2.fnm))) ∧ h P.1.2.2.2.2.2 = some (.inr (.inl (1, 200, P.2.fmk))) ∧ ¬ P.1.2.1 = P.1.2.2.1
theorem md_uni {h : AH} {a : Nat} : ∀ P P', mdAt h a P → mdAt h a P' → P = P' := by
  rintro ⟨⟨b0, b1, b2, b3, b4, b5⟩, v0, v1, v2, v3, v4, v5, v6, v7⟩ ⟨⟨b0', b1', b2', b3', b4', b5'⟩, v0', v1', v2', v3', v4', v5', v6', v7'⟩ ⟨d, d0, d1, d2, d3, d4, d5, -⟩ ⟨e, e0, e1, e2, e3, e4, e5, -⟩
  dsimp only [mdC, MV.thr, MV.sl, MV.fst9, MV.fat, MV.frt, MV.ftb, MV.fnm, MV.fmk] at d d0 d1 d2 d3 d4 d5 e e0 e1 e2 e3 e4 e5
  have hc := d.symm.trans e
  simp only [Option.some.injEq, Sum.inl.injEq, Sum.inr.injEq, Prod.mk.injEq, List.cons.injEq, true_and, and_true] at hc
  obtain ⟨g0, g1, g2, g3, g4, g5, g6, g7⟩ := hc
  subst g0 g1 g2 g3 g4 g5 g6 g7
  have h0 := d0.symm.trans e0
  have h1 := d1.symm.trans e1
  have h2 := d2.symm.trans e2
  have h3 := d3.symm.trans e3
  have h4 := d4.symm.trans e4
  have h5 := d5.symm.trans e5
  simp only [Option.some.injEq, Sum.inl.injEq, Sum.inr.injEq, Prod.mk.injEq, true_and] at h0 h1 h2 h3 h4 h5
  simp only [h0, h1, h2, h3, h4, h5]
noncomputable def ab_md (h : AH) (a : Nat) : Option (MA × MV) := ab_pk (mdAt h a)
theorem md_of {h : AH} {a : Nat} {P : MA × MV} (h1 : mdAt h a P) : ab_md h a = some P := pk_of md_uni h1
theorem md_el {h : AH} {a : Nat} {P : MA × MV} (h1 : ab_md h a = some P) : mdAt h a P := pk_el h1
def mdL (a : Nat) (B : MA) : List Nat := [a, B.1, B.2.1, B.2.2.1, B.2.2.2.1, B.2.2.2.2.1, B.2.2.2.2.2]
/-- apart, by what they hold -/
theorem md_nd {h : AH} {a b0 b1 b2 b3 b4 b5 : Nat} {v : MV} (hm : mdAt h a ((b0, b1, b2, b3, b4, b5), v)) :
    (¬ a = b0 ∧ ¬ b0 = a) ∧ (¬ a = b1 ∧ ¬ b1 = a) ∧ (¬ a = b2 ∧ ¬ b2 = a) ∧ (¬ a = b3 ∧ ¬ b3 = a) ∧ (¬ a = b4 ∧ ¬ b4 = a) ∧ (¬ a = b5 ∧ ¬ b5 = a) ∧ (¬ b0 = b1 ∧ ¬ b1 = b0) ∧ (¬ b0 = b2 ∧ ¬ b2 = b0) ∧ (¬ b0 = b3 ∧ ¬ b3 = b0) ∧ (¬ b0 = b4 ∧ ¬ b4 = b0) ∧ (¬ b0 = b5 ∧ ¬ b5 = b0) ∧ (¬ b1 = b2 ∧ ¬ b2 = b1) ∧ (¬ b1 = b3 ∧ ¬ b3 = b1) ∧ (¬ b1 = b4 ∧ ¬ b4 = b1) ∧ (¬ b1 = b5 ∧ ¬ b5 = b1) ∧ (¬ b2 = b3 ∧ ¬ b3 = b2) ∧ (¬ b2 = b4 ∧ ¬ b4 = b2) ∧ (¬ b2 = b5 ∧ ¬ b5 = b2) ∧ (¬ b3 = b4 ∧ ¬ b4 = b3) ∧ (¬ b3 = b5 ∧ ¬ b5 = b3) ∧ (¬ b4 = b5 ∧ ¬ b5 = b4) := by
  obtain ⟨d, d0, d1, d2, d3, d4, d5, n⟩ := hm
  dsimp only at d d0 d1 d2 d3 d4 d5 n
  have key : ∀ (x y : Nat) (c c' : AC), h x = some c → h y = some c' → c ≠ c' → ¬ x = y ∧ ¬ y = x := fun x y c c' e1 e2 hne => ⟨fun q => hne (Option.some.inj (e1.symm.trans (q ▸ e2))), fun q => hne (Option.some.inj (e1.symm.trans (q ▸ e2)))⟩
  refine ⟨key _ _ _ _ d d0 (by simp), key _ _ _ _ d d1 (by simp), key _ _ _ _ d d2 (by simp), key _ _ _ _ d d3 (by simp), key _ _ _ _ d d4 (by simp), key _ _ _ _ d d5 (by simp), key _ _ _ _ d0 d1 (by simp), key _ _ _ _ d0 d2 (by simp), key _ _ _ _ d0 d3 (by simp), key _ _ _ _ d0 d4 (by simp), key _ _ _ _ d0 d5 (by simp), ⟨n, fun q => n q.symm⟩, key _ _ _ _ d1 d3 (by simp), key _ _ _ _ d1 d4 (by simp), key _ _ _ _ d1 d5 (by simp), key _ _ _ _ d2 d3 (by simp), key _ _ _ _ d2 d4 (by simp), key _ _ _ _ d2 d5 (by simp), key _ _ _ _ d3 d4 (by simp), key _ _ _ _ d3 d5 (by simp), key _ _ _ _ d4 d5 (by simp)⟩
/-- old cells outside L are as they were; there may be new ones -/
def ab_kp (h h' : AH) (L : List Nat) : Prop := ∀ b, h b ≠ none → b ∉ L → h' b = h b
theorem ab_kp.rf {h : AH} {L : List Nat} : ab_kp h h L := fun _ _ _ => rfl
theorem ab_kp.up {h h' : AH} {L : List Nat} {a : Nat} {c : AC} (hf : ab_kp h h' L) (ha : a ∈ L) : ab_kp h (ab_up h' a c) L := fun b hb hn => by
  rw [ab_up_ap, if_neg (fun e => hn (by rw [e]; exact ha))]
  exact hf b hb hn
theorem ab_kp.nw {h h' : AH} {L : List Nat} {a : Nat} {c : AC} (hf : ab_kp h h' L) (ha : h a = none) : ab_kp h (ab_up h' a c) L := fun b hb hn => by
  rw [ab_up_ap, if_neg (fun e => hb (by rw [e]; exact ha))]
  exact hf b hb hn
theorem ab_kp.tr {h h1 h2 : AH} {L : List Nat} (h12 : ab_kp h h1 L) (h23 : ab_kp h1 h2 L) : ab_kp h h2 L := fun b hb hn => by
  have e := h12 b hb hn
  rw [h23 b (by rw [e]; exact hb) hn, e]
theorem ab_kp.of_fr {h h' : AH} {L : List Nat} (hf : ab_fr h h' L) : ab_kp h h' L := fun b _ hn => hf b hn
theorem ab_kp.sub {h h' : AH} {L M : List Nat} (hf : ab_kp h h' L) (hs : ∀ b ∈ L, b ∈ M) : ab_kp h h' M := fun b hb hn => hf b hb (fun q => hn (hs b q))
/-- a cell that is there stays there -/
theorem md_kp {h h' : AH} {a : Nat} {P : MA × MV} {L : List Nat} (hm : mdAt h a P) (hf : ab_kp h h' L) (hd : ∀ q ∈ mdL a P.1, q ∉ L) : mdAt h' a P := by
  obtain ⟨d, d0, d1, d2, d3, d4, d5, n⟩ := hm
  have nn : ∀ (x : Nat) (c : AC), h x = some c → h x ≠ none := fun x c e => by rw [e]; exact fun q => by cases q
  exact ⟨(hf _ (nn _ _ d) (hd _ (by simp [mdL]))).trans d, (hf _ (nn _ _ d0) (hd _ (by simp [mdL]))).trans d0, (hf _ (nn _ _ d1) (hd _ (by simp [mdL]))).trans d1, (hf _ (nn _ _ d2) (hd _ (by simp [mdL]))).trans d2, (hf _ (nn _ _ d3) (hd _ (by simp [mdL]))).trans d3, (hf _ (nn _ _ d4) (hd _ (by simp [mdL]))).trans d4, (hf _ (nn _ _ d5) (hd _ (by simp [mdL]))).trans d5, n⟩
/-- no slates, nothing rotten, no weather, nothing taken -/
def bareV (v : MV) : Prop := v.sl = 0 ∧ (∀ i, 0 ≤ i → i < 96 → v.fat i = -1) ∧ (∀ i, 0 ≤ i → i < 96 → v.frt i = 0) ∧ (∀ i, 0 ≤ i → i < 28 → v.ftb i = 0) ∧ (0 ≤ v.fnm 0 ∧ v.fnm 0 ≤ 1000) ∧ v.fnm 1 = 0
