/-! ===== SlateRoofs: its constructor ===== -/
def mkd (h hk : AH) (a : Nat) (L : List Nat) : Prop := ab_fr h hk (a :: L) ∧ (∀ q ∈ L, h q = none) ∧ (∀ q ∈ a :: L, hk q ≠ none)
theorem mkd_0 {h : AH} {a : Nat} {c : AC} (h1 : h a = some c) : mkd h h a [] := ⟨ab_fr.rf, fun q hq => absurd hq List.not_mem_nil, fun q hq => by
  rw [List.mem_singleton.mp hq, h1]; exact fun e => by cases e⟩
theorem mkd_put {h hk : AH} {a : Nat} {L : List Nat} {c : AC} (g : mkd h hk a L) : mkd h (ab_up hk a c) a L := by
  refine ⟨g.1.up (by simp), g.2.1, fun q hq => ?_⟩
  rw [ab_up_ap]
  split
  · exact fun e => by cases e
  · exact g.2.2 q hq
theorem mkd_new {h hk h2 : AH} {a r : Nat} {L M : List Nat} {o : AC} (g : mkd h hk a L) (hr : hk r = none) (hM : ∀ q ∈ M, ab_up hk r o q = none) (fr : ab_fr (ab_up hk r o) h2 (r :: M)) (hn : ∀ q ∈ r :: M, h2 q ≠ none) :
    mkd h h2 a (L ++ (r :: M)) ∧ (∀ x, hk x ≠ none → h2 x = hk x) := by
  obtain ⟨g1, g2, g3⟩ := g
  have hM2 : ∀ q ∈ r :: M, hk q = none := fun q hq => (List.mem_cons.mp hq).elim (fun e => by rw [e]; exact hr) (fun e => (ab_up_none (hM q e)).2)
  have kp : ∀ x, hk x ≠ none → h2 x = hk x := by
    intro x hx
    have hx2 : x ∉ r :: M := fun e => hx (hM2 x e)
    rw [fr x hx2, ab_up_ap, if_neg (fun e => hx2 (by rw [e]; exact List.mem_cons_self))]
  refine ⟨⟨?_, ?_, ?_⟩, kp⟩
  · intro b hb
    have hb2 : b ∉ r :: M := fun e => hb (List.mem_cons_of_mem _ (List.mem_append.mpr (Or.inr e)))
    have hb3 : b ∉ a :: L := fun e => hb ((List.mem_cons.mp e).elim (fun q => by rw [q]; exact List.mem_cons_self) (fun q => List.mem_cons_of_mem _ (List.mem_append.mpr (Or.inl q))))
    rw [fr b hb2, ab_up_ap, if_neg (fun e => hb2 (by rw [e]; exact List.mem_cons_self))]
    exact g1 b hb3
  · intro q hq
    rcases List.mem_append.mp hq with e | e
    · exact g2 q e
    · have e2 := hM2 q e
      rw [← g1 q (fun q3 => g3 q q3 e2)]
      exact e2
  · intro q hq
    by_cases e : q ∈ r :: M
    · exact hn q e
    · have e2 : q ∈ a :: L := (List.mem_cons.mp hq).elim (fun e3 => by rw [e3]; exact List.mem_cons_self) (fun e3 => (List.mem_append.mp e3).elim (fun e4 => List.mem_cons_of_mem _ e4) (fun e4 => absurd e4 e))
      rw [kp q (g3 q e2)]
      exact g3 q e2
theorem roof_nn {h : AH} {r : Nat} {ns : List Nat} {S : RS} (h2 : ab_roof h r = some (ns, S)) : ∀ q ∈ r :: ns, h q ≠ none := by
  obtain ⟨hB, n0, n1, n2, n3, n4, n5, n6, n7, n8, rfl, nd, c, c0, c1, c2, c3, c4, c5, c6, c7, c8⟩ := roof_el h2
  intro q hq
  simp only [List.mem_cons, List.not_mem_nil, or_false] at hq
  rcases hq with rfl | rfl | rfl | rfl | rfl | rfl | rfl | rfl | rfl | rfl <;> simp_all
theorem cov_nn {h : AH} {c : Nat} {P : Nat × (Int → Int)} (h2 : ab_cov h c = some P) : ∀ q ∈ [c, P.1], h q ≠ none := by
  obtain ⟨-, -, d, d0⟩ := cov_el h2
  intro q hq
  simp only [List.mem_cons, List.not_mem_nil, or_false] at hq
  rcases hq with rfl | rfl <;> simp_all
theorem tab_nn {h : AH} {b : Nat} {P : (Nat × Nat × Nat × Nat) × TS} (h2 : ab_tab h b = some P) : ∀ q ∈ [b, P.1.1, P.1.2.1, P.1.2.2.1, P.1.2.2.2], h q ≠ none := by
  obtain ⟨-, -, d, d0, d1, d2, d3⟩ := tab_el h2
  intro q hq
  simp only [List.mem_cons, List.not_mem_nil, or_false] at hq
  rcases hq with rfl | rfl | rfl | rfl | rfl <;> simp_all
theorem roof_keep {h h2 : AH} {r : Nat} {ns : List Nat} {S : RS} (h1 : ab_roof h r = some (ns, S)) (kp : ∀ x, h x ≠ none → h2 x = h x) : ab_roof h2 r = some (ns, S) := roof_fr h1 (fun b hb => kp b (roof_nn h1 b (List.mem_cons.mpr hb)))
theorem cov_keep {h h2 : AH} {c : Nat} {P : Nat × (Int → Int)} (h1 : ab_cov h c = some P) (kp : ∀ x, h x ≠ none → h2 x = h x) : ab_cov h2 c = some P := cov_fr h1 (kp c (cov_nn h1 c (by simp))) (kp P.1 (cov_nn h1 P.1 (by simp)))
theorem roof_put {h : AH} {a r : Nat} {ns : List Nat} {S : RS} {fs : List AV} {o : AC} (h1 : ab_roof h r = some (ns, S)) (h2 : h a = some (.inl (3, fs))) : ab_roof (ab_up h a o) r = some (ns, S) := roof_fr h1 (fun b hb => by
  rw [ab_up_ap, if_neg (fun e => obj_roof h2 h1 (by rw [← e]; exact List.mem_cons.mpr hb))])
theorem cov_put {h : AH} {a c : Nat} {P : Nat × (Int → Int)} {fs : List AV} {o : AC} (h1 : ab_cov h c = some P) (h2 : h a = some (.inl (3, fs))) : ab_cov (ab_up h a o) c = some P := cov_fr h1 (by
  rw [ab_up_ap, if_neg (fun e => obj_cov h2 h1 (by simp [e]))]) (by
  rw [ab_up_ap, if_neg (fun e => obj_cov h2 h1 (by simp [e]))])
theorem tab_put {h : AH} {a b : Nat} {P : (Nat × Nat × Nat × Nat) × TS} {fs : List AV} {o : AC} (h1 : ab_tab h b = some P) (h2 : h a = some (.inl (3, fs))) : ab_tab (ab_up h a o) b = some P := tab_fr h1 (fun x hx => by
  rw [ab_up_ap, if_neg (fun e => obj_tab h2 h1 (by rw [← e]; exact hx))])
