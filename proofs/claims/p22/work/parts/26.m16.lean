/-! ===== the whole object: what a part's change leaves ===== -/
theorem sr_roof {h h' : AH} {a : Nat} {A : SA} {v : SV} {S : RS} (h1 : srAt h a (A, v)) (h2 : ab_roof h' A.1.1 = some (A.1.2, S)) (h3 : ab_fr h h' (A.1.1 :: A.1.2)) : srAt h' a (A, (S, v.2)) := by
  obtain ⟨⟨r, ns⟩, ⟨t, ms⟩, ⟨c, n⟩, b, q⟩ := A
  obtain ⟨S0, O, f, T⟩ := v
  obtain ⟨d, d0, d1, d2, d3, d4⟩ := h1
  dsimp only at d d0 d1 d2 d3 d4 h2 h3 ⊢
  have k2 := cov_roof d2 d0
  dsimp only at k2
  have k3 := tab_roof d3 d0
  exact ⟨(h3 a (obj_roof d d0)).trans d, h2, roof_fr d1 (fun x hx => h3 x (fun hr => d4 x hr (List.mem_cons.mpr hx))), cov_fr d2 (h3 c (fun hr => (k2 c (List.mem_cons.mp hr)).1 rfl)) (h3 n (fun hr => (k2 n (List.mem_cons.mp hr)).2 rfl)), tab_fr d3 (fun x hx => h3 x (fun hr => k3 x hr hx)), d4⟩
theorem sr_trial {h h' : AH} {a : Nat} {A : SA} {v : SV} {S : RS} (h1 : srAt h a (A, v)) (h2 : ab_roof h' A.2.1.1 = some (A.2.1.2, S)) (h3 : ab_fr h h' (A.2.1.1 :: A.2.1.2)) : srAt h' a (A, (v.1, S, v.2.2)) := by
  obtain ⟨⟨r, ns⟩, ⟨t, ms⟩, ⟨c, n⟩, b, q⟩ := A
  obtain ⟨S0, O, f, T⟩ := v
  obtain ⟨d, d0, d1, d2, d3, d4⟩ := h1
  dsimp only at d d0 d1 d2 d3 d4 h2 h3 ⊢
  have k2 := cov_roof d2 d1
  dsimp only at k2
  have k3 := tab_roof d3 d1
  exact ⟨(h3 a (obj_roof d d1)).trans d, roof_fr d0 (fun x hx => h3 x (fun hr => d4 x (List.mem_cons.mpr hx) hr)), h2, cov_fr d2 (h3 c (fun hr => (k2 c (List.mem_cons.mp hr)).1 rfl)) (h3 n (fun hr => (k2 n (List.mem_cons.mp hr)).2 rfl)), tab_fr d3 (fun x hx => h3 x (fun hr => k3 x hr hx)), d4⟩
theorem sr_cov {h h' : AH} {a : Nat} {A : SA} {v : SV} {f : Int → Int} (h1 : srAt h a (A, v)) (h2 : ab_cov h' A.2.2.1.1 = some (A.2.2.1.2, f)) (h3 : ab_fr h h' [A.2.2.1.1, A.2.2.1.2]) : srAt h' a (A, (v.1, v.2.1, f, v.2.2.2)) := by
  obtain ⟨⟨r, ns⟩, ⟨t, ms⟩, ⟨c, n⟩, b, q⟩ := A
  obtain ⟨S0, O, f0, T⟩ := v
  obtain ⟨d, d0, d1, d2, d3, d4⟩ := h1
  dsimp only at d d0 d1 d2 d3 d4 h2 h3 ⊢
  have k0 := cov_roof d2 d0
  have k1 := cov_roof d2 d1
  dsimp only at k0 k1
  have k3 := tab_cov d3 d2
  have hn : ∀ x, ¬ x = c ∧ ¬ x = n → x ∉ [c, n] := fun x hx hm => by
    simp only [List.mem_cons, List.not_mem_nil, or_false] at hm
    exact hm.elim hx.1 hx.2
  exact ⟨(h3 a (obj_cov d d2)).trans d, roof_fr d0 (fun x hx => h3 x (hn x (k0 x hx))), roof_fr d1 (fun x hx => h3 x (hn x (k1 x hx))), h2, tab_fr d3 (fun x hx => h3 x (fun hr => k3 x hr hx)), d4⟩
theorem sr_tab {h h' : AH} {a : Nat} {A : SA} {v : SV} {T' : TS} (h1 : srAt h a (A, v)) (h2 : ab_tab h' A.2.2.2.1 = some (A.2.2.2.2, T')) (h3 : ab_fr h h' [A.2.2.2.1, A.2.2.2.2.1, A.2.2.2.2.2.1, A.2.2.2.2.2.2.1, A.2.2.2.2.2.2.2]) : srAt h' a (A, (v.1, v.2.1, v.2.2.1, T')) := by
  obtain ⟨⟨r, ns⟩, ⟨t, ms⟩, ⟨c, n⟩, b, q⟩ := A
  obtain ⟨S0, O, f0, T⟩ := v
  obtain ⟨d, d0, d1, d2, d3, d4⟩ := h1
  dsimp only at d d0 d1 d2 d3 d4 h2 h3 ⊢
  have k0 := tab_roof d3 d0
  have k1 := tab_roof d3 d1
  have k2 := tab_cov d3 d2
  exact ⟨(h3 a (obj_tab d d3)).trans d, roof_fr d0 (fun x hx => h3 x (k0 x (List.mem_cons.mpr hx))), roof_fr d1 (fun x hx => h3 x (k1 x (List.mem_cons.mpr hx))), cov_fr d2 (h3 c (k2 c (by simp))) (h3 n (k2 n (by simp))), h2, d4⟩
def srL (A : SA) : List Nat := (A.1.1 :: A.1.2) ++ ((A.2.1.1 :: A.2.1.2) ++ [A.2.2.1.1, A.2.2.1.2, A.2.2.2.1, A.2.2.2.2.1, A.2.2.2.2.2.1, A.2.2.2.2.2.2.1, A.2.2.2.2.2.2.2])
