/-! ===== the law's helpers: the two roofs side by side ===== -/
theorem sr_kind {h : AH} {a : Nat} {A : SA} {v : SV} (h1 : srAt h a (A, v)) : ∀ b ∈ a :: srL A, (∃ ci fs, h b = some (.inl (ci, fs)) ∧ ¬ ci = 4) ∨ ∃ t n f, h b = some (.inr (.inl (t, n, f))) ∧ ¬ n = 6 ∧ ¬ n = 8 ∧ ¬ n = 4 := by
  obtain ⟨⟨r, ns⟩, ⟨t, ms⟩, ⟨c, n⟩, b, q0, q1, q2, q3⟩ := A
  obtain ⟨S0, O, f, T⟩ := v
  obtain ⟨d, d0, d1, d2, d3, d4⟩ := h1
  dsimp only at d d0 d1 d2 d3 d4
  have rf : ∀ (r : Nat) (ns : List Nat) (S : RS), ab_roof h r = some (ns, S) → ∀ x, x = r ∨ x ∈ ns → (∃ ci fs, h x = some (.inl (ci, fs)) ∧ ¬ ci = 4) ∨ ∃ t n f, h x = some (.inr (.inl (t, n, f))) ∧ ¬ n = 6 ∧ ¬ n = 8 ∧ ¬ n = 4 := by
    intro r ns S hr x hx
    obtain ⟨hB, n0, n1, n2, n3, n4, n5, n6, n7, n8, rfl, nd, c, c0, c1, c2, c3, c4, c5, c6, c7, c8⟩ := roof_el hr
    simp only [List.mem_cons, List.not_mem_nil, or_false] at hx
    rcases hx with rfl | rfl | rfl | rfl | rfl | rfl | rfl | rfl | rfl | rfl
    · exact Or.inl ⟨_, _, c, by decide⟩
    · exact Or.inr ⟨_, _, _, c0, by decide, by decide, by decide⟩
    · exact Or.inr ⟨_, _, _, c1, by decide, by decide, by decide⟩
    · exact Or.inr ⟨_, _, _, c2, by decide, by decide, by decide⟩
    · exact Or.inr ⟨_, _, _, c3, by decide, by decide, by decide⟩
    · exact Or.inr ⟨_, _, _, c4, by decide, by decide, by decide⟩
    · exact Or.inr ⟨_, _, _, c5, by decide, by decide, by decide⟩
    · exact Or.inr ⟨_, _, _, c6, by decide, by decide, by decide⟩
    · exact Or.inr ⟨_, _, _, c7, by decide, by decide, by decide⟩
    · exact Or.inr ⟨_, _, _, c8, by decide, by decide, by decide⟩
  intro x hx
  simp only [srL, List.mem_cons, List.mem_append, List.not_mem_nil, or_false] at hx
  obtain ⟨-, -, e0, e1⟩ := cov_el d2
  obtain ⟨-, -, g0, g1, g2, g3, g4⟩ := tab_el d3
  dsimp only at e0 e1 g0 g1 g2 g3 g4
  rcases hx with rfl | hx | hx | rfl | rfl | rfl | rfl | rfl | rfl | rfl
  · exact Or.inl ⟨_, _, d, by decide⟩
  · exact rf r ns S0 d0 x hx
  · exact rf t ms O d1 x hx
  · exact Or.inl ⟨_, _, e0, by decide⟩
  · exact Or.inr ⟨_, _, _, e1, by decide, by decide, by decide⟩
  · exact Or.inl ⟨_, _, g0, by decide⟩
  · exact Or.inr ⟨_, _, _, g1, by decide, by decide, by decide⟩
  · exact Or.inr ⟨_, _, _, g2, by decide, by decide, by decide⟩
  · exact Or.inr ⟨_, _, _, g3, by decide, by decide, by decide⟩
  · exact Or.inr ⟨_, _, _, g4, by decide, by decide, by decide⟩
theorem sr_sim {h : AH} {r s : Nat} {A : SA} {v : SV} {P : SN × SM} (h1 : srAt h r (A, v)) (h2 : simAt h s P) {b : Nat} (hb : b ∈ r :: srL A) : ¬ simIn P.1 s b := by
  intro hs
  rcases sr_kind h1 b hb with ⟨ci, fs, e, hc⟩ | ⟨t, n, f, e, n6, n8, n4⟩
  · rcases sim_kind h2 hs with ⟨fs', q⟩ | ⟨n', f', q⟩ | ⟨w, f', q, -⟩
    · have := e.symm.trans q
      simp only [Option.some.injEq, Sum.inl.injEq, Prod.mk.injEq] at this
      exact hc this.1
    · cases e.symm.trans q
    · cases e.symm.trans q
  · rcases sim_kind h2 hs with ⟨fs', q⟩ | ⟨n', f', q⟩ | ⟨w, f', q, hw⟩
    · cases e.symm.trans q
    · cases e.symm.trans q
    · have := e.symm.trans q
      simp only [Option.some.injEq, Sum.inr.injEq, Sum.inl.injEq, Prod.mk.injEq] at this
      rcases hw with u | u | u
      · exact n6 (this.2.1.trans u)
      · exact n8 (this.2.1.trans u)
      · exact n4 (this.2.1.trans u)
/-- both roofs, alike -/
def LwP (h : AH) (r s : Nat) (A : SA) (v : SV) (N : SN) (M : SM) : Prop := srAt h r (A, v) ∧ simAt h s (N, M) ∧ Good v.1 M ∧ TabR v.2.2.2 M
def lwIn (r s : Nat) (A : SA) (N : SN) (b : Nat) : Prop := b ∈ r :: srL A ∨ simIn N s b
def LwQ (h h' : AH) (r s : Nat) (A : SA) (N : SN) (day : Int) : Prop := ∃ v' N' M', LwP h' r s A v' N' M' ∧ M'.day = day ∧ ab_fo h h' (lwIn r s A N) ∧ ∀ b, simIn N' s b → simIn N s b ∨ h b = none
theorem LwQ.rf {h : AH} {r s : Nat} {A : SA} {v : SV} {N : SN} {M : SM} (h1 : LwP h r s A v N M) : LwQ h h r s A N M.day := ⟨v, N, M, h1, rfl, ab_fo.rf, fun _ q => Or.inl q⟩
theorem fo_lw {h h1 h2 : AH} {r s : Nat} {A : SA} {N N1 : SN} (f1 : ab_fo h h1 (lwIn r s A N)) (g1 : ∀ b, simIn N1 s b → simIn N s b ∨ h b = none) (f2 : ab_fo h1 h2 (lwIn r s A N1)) : ab_fo h h2 (lwIn r s A N) := by
  intro b hb hn
  have e1 := f1 b hb hn
  refine (f2 b ?_ (by rw [e1]; exact hn)).trans e1
  rintro (q | q)
  · exact hb (Or.inl q)
  · rcases g1 b q with u | u
    · exact hb (Or.inr u)
    · exact hn u
theorem in_lw {h h1 : AH} {r s : Nat} {A : SA} {v1 : SV} {N N1 N2 : SN} (h0 : srAt h1 r (A, v1)) (f1 : ab_fo h h1 (lwIn r s A N)) (g1 : ∀ b, simIn N1 s b → simIn N s b ∨ h b = none) (g2 : ∀ b, simIn N2 s b → simIn N1 s b ∨ h1 b = none) : ∀ b, simIn N2 s b → simIn N s b ∨ h b = none := by
  intro b hb
  rcases g2 b hb with q | q
  · exact g1 b q
  · by_cases hs : simIn N s b
    · exact Or.inl hs
    · refine Or.inr ?_
      cases hc : h b with
      | none => rfl
      | some c =>
        by_cases hr : b ∈ r :: srL A
        · exact absurd q (sr_nn h0 b hr)
        · rw [f1 b (fun u => u.elim hr hs) (by rw [hc]; exact fun u => by cases u), hc] at q
          cases q
theorem LwQ.tr {h h1 h2 : AH} {r s : Nat} {A : SA} {v1 v2 : SV} {N N1 N2 : SN} {M1 M2 : SM} (p1 : LwP h1 r s A v1 N1 M1) (f1 : ab_fo h h1 (lwIn r s A N)) (g1 : ∀ b, simIn N1 s b → simIn N s b ∨ h b = none) (p2 : LwP h2 r s A v2 N2 M2) (f2 : ab_fo h1 h2 (lwIn r s A N1)) (g2 : ∀ b, simIn N2 s b → simIn N1 s b ∨ h1 b = none) : LwQ h h2 r s A N M2.day :=
  ⟨v2, N2, M2, p2, rfl, fo_lw f1 g1 f2, in_lw p1.1 f1 g1 g2⟩
/-- behind a call of the class -/
theorem lp_cls {h h' : AH} {r s : Nat} {A : SA} {v v' : SV} {N : SN} {M M' : SM} {L : List Nat} (p : LwP h r s A v N M) (h1 : srAt h' r (A, v')) (fr : ab_fr h h' L) (hL : ∀ b ∈ L, b ∈ r :: srL A) : simAt h' s (N, M) ∧ ab_fo h h' (lwIn r s A N) :=
  ⟨sim_keep p.2.1 (fun b hb => fr b (fun q => sr_sim p.1 p.2.1 (hL b q) hb)), ab_fo.of fr (fun b q => Or.inl (hL b q))⟩
/-- behind a call of the law's roof -/
theorem lp_sim {h h' : AH} {r s : Nat} {A : SA} {v : SV} {N : SN} {M : SM} (p : LwP h r s A v N M) (fo : ab_fo h h' (simIn N s)) : srAt h' r (A, v) ∧ ab_fo h h' (lwIn r s A N) :=
  ⟨sr_fr p.1 (fun b hb => fo b (sr_sim p.1 p.2.1 hb) (sr_nn p.1 b hb)), fo.sub (fun _ q => Or.inr q)⟩
theorem lp_fo {h h' : AH} {r s : Nat} {A : SA} {v : SV} {N : SN} {M : SM} (p : LwP h r s A v N M) (fo : ab_fo h h' (fun _ => False)) : LwP h' r s A v N M := ⟨sr_fo p.1 fo, sim_fo p.2.1 fo, p.2.2⟩
theorem in_roof (r : Nat) (A : SA) : ∀ b ∈ A.1.1 :: A.1.2, b ∈ r :: srL A := fun b hb => by
  simp only [srL, List.mem_cons, List.mem_append] at hb ⊢; exact Or.inr (Or.inl hb)
theorem in_trial (r : Nat) (A : SA) : ∀ b ∈ A.2.1.1 :: A.2.1.2, b ∈ r :: srL A := fun b hb => by
  simp only [srL, List.mem_cons, List.mem_append] at hb ⊢; exact Or.inr (Or.inr (Or.inl hb))
theorem in_cov (r : Nat) (A : SA) : ∀ b ∈ [A.2.2.1.1, A.2.2.1.2], b ∈ r :: srL A := fun b hb => by
  simp only [srL, List.mem_cons, List.mem_append, List.not_mem_nil, or_false] at hb ⊢
  exact Or.inr (Or.inr (Or.inr (by omega)))
theorem in_tab (r : Nat) (A : SA) : ∀ b ∈ [A.2.2.2.1, A.2.2.2.2.1, A.2.2.2.2.2.1, A.2.2.2.2.2.2.1, A.2.2.2.2.2.2.2], b ∈ r :: srL A := fun b hb => by
  simp only [srL, List.mem_cons, List.mem_append, List.not_mem_nil, or_false] at hb ⊢
  exact Or.inr (Or.inr (Or.inr (by omega)))
theorem in_app {L1 L2 : List Nat} {r : Nat} {A : SA} (h1 : ∀ b ∈ L1, b ∈ r :: srL A) (h2 : ∀ b ∈ L2, b ∈ r :: srL A) : ∀ b ∈ L1 ++ L2, b ∈ r :: srL A := fun b hb => (List.mem_append.mp hb).elim (h1 b) (h2 b)
/-! below and cell -/
def belowF (v n : Int) : Int := Int.tmod (Int32.ofInt v &&& Int32.ofInt 2147483647).toInt n
theorem and_nn (v : Int) : 0 ≤ (Int32.ofInt v &&& Int32.ofInt 2147483647).toInt := by
  have h : (BitVec.ofInt 32 v &&& BitVec.ofInt 32 2147483647).msb = false := by
    rw [BitVec.msb_and, ab_msb0 2147483647 (by omega), Bool.and_false]
  rw [BitVec.msb_eq_toInt] at h
  have h2 := of_decide_eq_false h
  show 0 ≤ (BitVec.ofInt 32 v &&& BitVec.ofInt 32 2147483647).toInt
  omega
theorem below_r {v n : Int} (hn : 0 < n) : 0 ≤ belowF v n ∧ belowF v n < n := by
  unfold belowF
  rw [Int.tmod_eq_emod_of_nonneg (and_nn v)]
  exact ⟨Int.emod_nonneg _ (by omega), Int.emod_lt_of_pos _ hn⟩
def Tr_L_below : ATr := fun as h K => match as with
  | [.inl v, .inl n] => (1 ≤ n ∧ n ≤ 1000) ∧ K (some (.inl (belowF v n))) h
  | _ => False
theorem mo_L_below : ab_mo Tr_L_below := by
  intro as h K K' hk ht
  unfold Tr_L_below at ht ⊢
  split at ht
  · exact ⟨ht.1, hk _ _ ht.2⟩
  · exact ht.elim
def ca_L_below : Nat → Option ACS := ab_lk []
theorem cm_L_below : ∀ i q, ca_L_below i = some q → ab_moq i q := ab_lk_all (ab_all_n)
set_option maxRecDepth 100000 in
set_option maxHeartbeats 4000000 in
theorem sem_L_below (base : Nat) : ab_Sem tbL lw_ts base cL_below ca_L_below 1 2 0 0 (fun as => ab_en as 2) Tr_L_below := by
  intro as h K hT V hV
  unfold Tr_L_below at hT
  split at hT
  · rename_i v n
    obtain ⟨hs, hK⟩ := hT
    unfold belowF at hK
    have h9 := ab_i32_in (Int32.ofInt v &&& Int32.ofInt 2147483647)
    unfold ab_in at h9
    show V 0 [some (.inl v), some (.inl n)] [] h 0 0
    refine hV (fun _ => false) 80 _ _ _ _ _ _ ?_
    simp only [bI_in, bI_0, bI_1, bI_t, bI_f, bI_01, ae_iand, ae_iload_n, ae_irem, ae_ireturn, ae_ldc, dL_below_0, dL_below_1, dL_below_3, dL_below_4, dL_below_5, dL_below_6, tbL_c7, ab_wp0, ab_wps, ab_stp, ab_g, ab_st, ab_k2, ab_cl, ab_pop, ab_sz, ab_2, ab_ret, ab_f4, ab_tg, ab_I, ab_II, ab_A, ab_Rf, ab_VR, ab_IR, ab_VIR, ab_1, ab_LL, ab_DD, ab_ob, ab_pr, ab_qr, ab_ln, ab_so, ab_vI, ab_vA, ab_vD, ab_vL, ab_v2, ab_c, ab_fit, ab_rv, ab_tsw, ab_lsw, ab_up_eq, Fin.isValue, ab_f0, ab_f1, ab_f2, ab_f3, List.getElem?_cons_zero, List.getElem?_cons_succ, List.set_cons_zero, List.set_cons_succ, List.length_cons, List.length_nil, List.size_toArray, List.head?_cons, List.tail_cons, Option.map_some, cond_true, cond_false, true_and, and_true, false_and, and_false, not_true_eq_false, not_false_eq_true, true_imp_iff, false_imp_iff, if_true, if_false, ite_true, ite_false, ↓reduceIte, Nat.reduceAdd, Nat.reduceEqDiff, Nat.reduceLeDiff, Nat.reduceLT, Nat.reduceBEq, Nat.reduceBNe, Int.reduceAdd, Int.reduceNeg, Int.reduceSub, Int.reduceLE, Int.reduceLT, Int.reduceToNat, Int.reduceEq, Int.reduceMul, Int.cast_ofNat_Int, Nat.zero_add, Nat.add_zero, Nat.le_refl, eq_self, ne_eq, reduceCtorEq, or_true, true_or, or_false, false_or, Bool.or_true, Bool.or_false, Bool.true_or, Bool.false_or, Nat.zero_le, Int.le_refl, Int.ofNat_zero, Int.ofNat_one, Bool.false_eq_true]
    try simp only [ab_in]
    (repeat' (first | intro _ | refine And.intro ?_ ?_)) <;> (first | exact hK | contradiction | omega | (exfalso; omega))
  · exact hT.elim
set_option maxRecDepth 100000 in
theorem con_L_below (l : Launch) (D : va_G) (ty : Nat → ClassId) (base : Nat) : ab_Con l D vwCl ty lw_ts base lw_wd yL_below cL_below 2 (some .int) 0 0 0 0 Tr_L_below :=
  ab_con_of (own := RL) (rt := 1) (tb := tbL) (ini := false) (ca := ca_L_below) (by decide +kernel) rfl (fun h => by cases h) rfl lw_wd_ok wtbL lw_ar cm_L_below
    (fun p e R s m args below meth c K hcx => by
      obtain ⟨hx, hb, hml, hown, hF, rfl⟩ := hcx
      exact ab_lk_all (ab_all_n))
    (by intro as h K ht; unfold Tr_L_below at ht; split at ht <;> first | exact ht.elim | exact Nat.le_of_ble_eq_true rfl) (sem_L_below base)
noncomputable def Tr_L_cell : ATr := fun as h K => match as with
  | [.inr (.inl (some b)), .inl k] => ab_pr (h b) fun t n f => (t = 9 ∧ n ≤ 300 ∧ (0 ≤ k ∧ k ≤ 100)) ∧ ∀ v, K (some (.inl v)) h
  | _ => False
theorem mo_L_cell : ab_mo Tr_L_cell := by
  intro as h K K' hk ht
  unfold Tr_L_cell at ht ⊢
  split at ht
  · exact ab_pr_mo (fun t n f w => ⟨w.1, fun v => hk _ _ (w.2 v)⟩) ht
  · exact ht.elim
def ca_L_cell : Nat → Option ACS := ab_lk []
theorem cm_L_cell : ∀ i q, ca_L_cell i = some q → ab_moq i q := ab_lk_all (ab_all_n)
set_option maxRecDepth 100000 in
set_option maxHeartbeats 4000000 in
theorem sem_L_cell (base : Nat) : ab_Sem tbL lw_ts base cL_cell ca_L_cell 1 2 0 0 (fun as => ab_en as 2) Tr_L_cell := by
  intro as h K hT V hV
  unfold Tr_L_cell at hT
  split at hT
  · rename_i b k
    obtain ⟨t, n, f, hc, ⟨rfl, hn, hs⟩, hK⟩ := ab_pr_el hT
    show V 0 [some (.inr (.inl (some b))), some (.inl k)] [] h 0 0
    by_cases hlt : (n : Int) ≤ k
    · refine hV (fun _ => false) 80 _ _ _ _ _ _ ?_
      simp only [hc, hlt, bI_in, bI_0, bI_1, bI_t, bI_f, bI_01, ae_aload_n, ae_arraylength, ae_goto, ae_iadd, ae_iaload, ae_iconst, ae_if_icmp, ae_iload_n, ae_imul, ae_ireturn, ae_ldc, dL_cell_0, dL_cell_1, dL_cell_2, dL_cell_3, dL_cell_6, dL_cell_7, dL_cell_8, dL_cell_9, dL_cell_12, dL_cell_14, dL_cell_15, dL_cell_16, dL_cell_17, dL_cell_18, tbL_c8, ab_wp0, ab_wps, ab_stp, ab_g, ab_st, ab_k2, ab_cl, ab_pop, ab_sz, ab_2, ab_ret, ab_f4, ab_tg, ab_I, ab_II, ab_A, ab_Rf, ab_VR, ab_IR, ab_VIR, ab_1, ab_LL, ab_DD, ab_ob, ab_pr, ab_qr, ab_ln, ab_so, ab_vI, ab_vA, ab_vD, ab_vL, ab_v2, ab_c, ab_fit, ab_rv, ab_tsw, ab_lsw, ab_up_eq, Fin.isValue, ab_f0, ab_f1, ab_f2, ab_f3, List.getElem?_cons_zero, List.getElem?_cons_succ, List.set_cons_zero, List.set_cons_succ, List.length_cons, List.length_nil, List.size_toArray, List.head?_cons, List.tail_cons, Option.map_some, cond_true, cond_false, true_and, and_true, false_and, and_false, not_true_eq_false, not_false_eq_true, true_imp_iff, false_imp_iff, if_true, if_false, ite_true, ite_false, ↓reduceIte, Nat.reduceAdd, Nat.reduceEqDiff, Nat.reduceLeDiff, Nat.reduceLT, Nat.reduceBEq, Nat.reduceBNe, Int.reduceAdd, Int.reduceNeg, Int.reduceSub, Int.reduceLE, Int.reduceLT, Int.reduceToNat, Int.reduceEq, Int.reduceMul, Int.cast_ofNat_Int, Nat.zero_add, Nat.add_zero, Nat.le_refl, eq_self, ne_eq, reduceCtorEq, or_true, true_or, or_false, false_or, Bool.or_true, Bool.or_false, Bool.true_or, Bool.false_or, Nat.zero_le, Int.le_refl, Int.ofNat_zero, Int.ofNat_one, Bool.false_eq_true]
      try simp only [ab_in]
      (repeat' (first | intro _ | refine And.intro ?_ ?_)) <;> (first | exact hK _ | exact rfl | contradiction | omega | (exfalso; omega))
    · refine hV (fun _ => false) 80 _ _ _ _ _ _ ?_
      simp only [hc, hlt, bI_in, bI_0, bI_1, bI_t, bI_f, bI_01, ae_aload_n, ae_arraylength, ae_goto, ae_iadd, ae_iaload, ae_iconst, ae_if_icmp, ae_iload_n, ae_imul, ae_ireturn, ae_ldc, dL_cell_0, dL_cell_1, dL_cell_2, dL_cell_3, dL_cell_6, dL_cell_7, dL_cell_8, dL_cell_9, dL_cell_12, dL_cell_14, dL_cell_15, dL_cell_16, dL_cell_17, dL_cell_18, tbL_c8, ab_wp0, ab_wps, ab_stp, ab_g, ab_st, ab_k2, ab_cl, ab_pop, ab_sz, ab_2, ab_ret, ab_f4, ab_tg, ab_I, ab_II, ab_A, ab_Rf, ab_VR, ab_IR, ab_VIR, ab_1, ab_LL, ab_DD, ab_ob, ab_pr, ab_qr, ab_ln, ab_so, ab_vI, ab_vA, ab_vD, ab_vL, ab_v2, ab_c, ab_fit, ab_rv, ab_tsw, ab_lsw, ab_up_eq, Fin.isValue, ab_f0, ab_f1, ab_f2, ab_f3, List.getElem?_cons_zero, List.getElem?_cons_succ, List.set_cons_zero, List.set_cons_succ, List.length_cons, List.length_nil, List.size_toArray, List.head?_cons, List.tail_cons, Option.map_some, cond_true, cond_false, true_and, and_true, false_and, and_false, not_true_eq_false, not_false_eq_true, true_imp_iff, false_imp_iff, if_true, if_false, ite_true, ite_false, ↓reduceIte, Nat.reduceAdd, Nat.reduceEqDiff, Nat.reduceLeDiff, Nat.reduceLT, Nat.reduceBEq, Nat.reduceBNe, Int.reduceAdd, Int.reduceNeg, Int.reduceSub, Int.reduceLE, Int.reduceLT, Int.reduceToNat, Int.reduceEq, Int.reduceMul, Int.cast_ofNat_Int, Nat.zero_add, Nat.add_zero, Nat.le_refl, eq_self, ne_eq, reduceCtorEq, or_true, true_or, or_false, false_or, Bool.or_true, Bool.or_false, Bool.true_or, Bool.false_or, Nat.zero_le, Int.le_refl, Int.ofNat_zero, Int.ofNat_one, Bool.false_eq_true]
      try simp only [ab_in]
      (repeat' (first | intro _ | refine And.intro ?_ ?_)) <;> (first | exact hK _ | exact rfl | contradiction | omega | (exfalso; omega))
  · exact hT.elim
set_option maxRecDepth 100000 in
theorem con_L_cell (l : Launch) (D : va_G) (ty : Nat → ClassId) (base : Nat) : ab_Con l D vwCl ty lw_ts base lw_wd yL_cell cL_cell 2 (some .int) 0 0 0 0 Tr_L_cell :=
  ab_con_of (own := RL) (rt := 1) (tb := tbL) (ini := false) (ca := ca_L_cell) (by decide +kernel) rfl (fun h => by cases h) rfl lw_wd_ok wtbL lw_ar cm_L_cell
    (fun p e R s m args below meth c K hcx => by
      obtain ⟨hx, hb, hml, hown, hF, rfl⟩ := hcx
      exact ab_lk_all (ab_all_n))
    (by intro as h K ht; unfold Tr_L_cell at ht; split at ht <;> first | exact ht.elim | exact Nat.le_of_ble_eq_true rfl) (sem_L_cell base)
noncomputable def Tr_L_lays : ATr := fun as h K => match as with
  | [.inr (.inl (some r)), .inr (.inl (some s)), .inl row, .inl from9, .inl wide, .inl nails] => ab_so (ab_sr h r) fun P => ab_so (ab_sim h s) fun Q => ((0 ≤ row ∧ row ≤ 7) ∧ (0 ≤ from9 ∧ from9 ≤ 12) ∧ (1 ≤ wide ∧ wide ≤ 4) ∧ (1 ≤ nails ∧ nails ≤ 3) ∧ Good P.2.1 Q.2 ∧ TabR P.2.2.2.2 Q.2) ∧ ∀ h', LwQ h h' r s P.1 Q.1 Q.2.day → K (some (.inl 1)) h'
  | _ => False
theorem mo_L_lays : ab_mo Tr_L_lays := by
  intro as h K K' hk ht
  unfold Tr_L_lays at ht ⊢
  split at ht
  · exact ab_so_mo (fun _ q => ab_so_mo (fun _ q2 => ⟨q2.1, fun h' e1 => hk _ _ (q2.2 h' e1)⟩) q) ht
  · exact ht.elim
def ca_L_lays : Nat → Option ACS := ab_lk [(9, (0, 4, 2, 0, 0, Tr_X4_on)), (19, (0, 4, 4, 0, 0, Tr_X4_isFree)), (23, (0, 4, 5, 2, 206, Tr_X4_add)), (27, (0, 3, 5, 0, 0, Tr_X3_lay))]
theorem ca_L_lays_9 : ca_L_lays 9 = some (0, 4, 2, 0, 0, Tr_X4_on) := rfl
theorem ca_L_lays_19 : ca_L_lays 19 = some (0, 4, 4, 0, 0, Tr_X4_isFree) := rfl
theorem ca_L_lays_23 : ca_L_lays 23 = some (0, 4, 5, 2, 206, Tr_X4_add) := rfl
theorem ca_L_lays_27 : ca_L_lays 27 = some (0, 3, 5, 0, 0, Tr_X3_lay) := rfl
theorem cm_L_lays : ∀ i q, ca_L_lays i = some q → ab_moq i q := ab_lk_all (ab_all_c mo_X4_on (ab_all_c mo_X4_isFree (ab_all_c mo_X4_add (ab_all_c mo_X3_lay (ab_all_n)))))
set_option maxRecDepth 100000 in
set_option maxHeartbeats 4000000 in
theorem sem_L_lays (base : Nat) : ab_Sem tbL lw_ts base cL_lays ca_L_lays 2 6 2 206 (fun as => ab_en as 6) Tr_L_lays := by
  intro as h K hT V hV
  unfold Tr_L_lays at hT
  split at hT
  · rename_i r s row from9 wide nails
    obtain ⟨⟨A, v⟩, hQ1, hT2⟩ := ab_so_el hT
    obtain ⟨⟨N, M⟩, hQ2, hs, hK⟩ := ab_so_el hT2
    have hA := sr_el hQ1
    have hB := sim_el hQ2
    dsimp only at hs hK
    obtain ⟨s1, s2, s3, s4, hg, hT9⟩ := hs
    have hp : LwP h r s A v N M := ⟨hA, hB, hg, hT9⟩
    obtain ⟨S, O, fc, T⟩ := v
    dsimp only at hg hT9
    show V 0 [some (.inr (.inl (some r))), some (.inr (.inl (some s))), some (.inl row), some (.inl from9), some (.inl wide), some (.inl nails)] [] h 0 0
    have hk2 := hK h (LwQ.rf hp)
    have hon : 0 ≤ onS M 0 ∧ onS M 0 ≤ 200 := onS_r 0 hB.1
    obtain ⟨mb, D, nd, D0, D1, D2, r0, r1, r2⟩ := id hB
    have hsl0 := mb.1
    have hn0 := mb.2.2.2.1
    have E := hA.1
    dsimp only at D D0 D1 D2 r0 r1 r2 hsl0 hn0 E
    have hnn : (M.n : Int) = S.laid := hg.2.2.1
    have hth := on_eq hg.2.1 hg.2.2
    have hfr := free_eq hg.2.1 hg.2.2 (row := row) (from9 := from9) (wide := wide) s3.1
    have hw6 := hg.2.1.2.2.2.1.2
    have fin : ∀ h1 N1, ab_sim h1 s = some (N1, addS M row from9 wide nails) → ab_fo h h1 (simIn N s) → (∀ b, simIn N1 s b → simIn N s b ∨ h b = none) → from9 + wide ≤ 12 → ¬ onS M 0 = 60 → ¬ (M.n : Int) = 200 → freeS M row from9 wide = true → V 53 [some (.inr (.inl (some r))), some (.inr (.inl (some s))), some (.inl row), some (.inl from9), some (.inl wide), some (.inl nails)] [] h1 2 206 := by
      intro h1 N1 u1 u2 u3 c1 c2 c3 c4
      have g1 := sim_el u1
      obtain ⟨g2, fo⟩ := lp_sim hp u2
      have hg2 := good_add hg (row := row) (from9 := from9) (wide := wide) (v := nails) s1 (by omega) s4 (by omega) (by omega) (by rw [← hfr]; exact c4)
      have hfit : fitsF row from9 wide = true := decide_eq_true (by omega)
      have hnb := g2.1
      have hrg := sr_of g2
      have D9 := g1.2.1
      have D8 := g1.2.2.2.1
      have hnn9 : ((M.n + 1 : Nat) : Int) = S.laid + 1 := by omega
      have hthn : 0 ≤ S.there := by omega
      have aft : ∀ h2, ab_sr h2 r = some (A, (addF S row from9 wide nails, O, fc, T)) → ab_fr h1 h2 (A.1.1 :: A.1.2) → V 63 [some (.inr (.inl (some r))), some (.inr (.inl (some s))), some (.inl row), some (.inl from9), some (.inl wide), some (.inl nails)] [.inl S.laid] h2 2 206 := by
        intro h2 w1 w2
        have q1 := sr_el w1
        have p1 : LwP h1 r s A (S, O, fc, T) N1 (addS M row from9 wide nails) → True := fun _ => trivial
        have q2 : simAt h2 s (N1, addS M row from9 wide nails) := sim_keep g1 (fun b hb => w2 b (fun q => sr_sim g2 g1 (in_roof r A b q) hb))
        have q3 : ab_fo h1 h2 (lwIn r s A N1) := ab_fo.of w2 (fun b q => Or.inl (in_roof r A b q))
        have hT8 : TabR T (addS M row from9 wide nails) := hT9
        have hk3 := hK h2 ⟨(addF S row from9 wide nails, O, fc, T), N1, addS M row from9 wide nails, ⟨q1, q2, hg2, hT8⟩, rfl, fo_lw fo u3 q3, fun b hb => u3 b hb⟩
        have D7 := q2.2.1
        have D6 := q2.2.2.2.1
        dsimp only at D7 D6
        have hn9 : (addS M row from9 wide nails).n = M.n + 1 := rfl
        rw [hn9] at D6
        clear q1 q2 q3 hK hk2 fo hg hg2 r0 r1 r2 mb hsl0 u2 u3
        refine hV (fun _ => false) 80 _ _ _ _ _ _ ?_
        simp only [D7, D6, hnn9, bI_in, bI_0, bI_1, bI_t, bI_f, bI_01, ae_aload_n, ae_arraylength, ae_getfield, ae_goto, ae_iconst, ae_if_icmp, ae_ireturn, ae_isub, dL_lays_63, dL_lays_64, dL_lays_67, dL_lays_68, dL_lays_69, dL_lays_70, dL_lays_73, dL_lays_74, dL_lays_77, dL_lays_78, tbL_g15, ca_L_lays_9, ca_L_lays_19, ca_L_lays_23, ca_L_lays_27, ab_wp0, ab_wps, ab_stp, ab_g, ab_st, ab_k2, ab_cl, ab_pop, ab_sz, ab_2, ab_ret, ab_f4, ab_tg, ab_I, ab_II, ab_A, ab_Rf, ab_VR, ab_IR, ab_VIR, ab_1, ab_LL, ab_DD, ab_ob, ab_pr, ab_qr, ab_ln, ab_so, ab_vI, ab_vA, ab_vD, ab_vL, ab_v2, ab_c, ab_fit, ab_rv, ab_tsw, ab_lsw, ab_up_eq, Fin.isValue, ab_f0, ab_f1, ab_f2, ab_f3, List.getElem?_cons_zero, List.getElem?_cons_succ, List.set_cons_zero, List.set_cons_succ, List.length_cons, List.length_nil, List.size_toArray, List.head?_cons, List.tail_cons, Option.map_some, cond_true, cond_false, true_and, and_true, false_and, and_false, not_true_eq_false, not_false_eq_true, true_imp_iff, false_imp_iff, if_true, if_false, ite_true, ite_false, ↓reduceIte, Nat.reduceAdd, Nat.reduceEqDiff, Nat.reduceLeDiff, Nat.reduceLT, Nat.reduceBEq, Nat.reduceBNe, Int.reduceAdd, Int.reduceNeg, Int.reduceSub, Int.reduceLE, Int.reduceLT, Int.reduceToNat, Int.reduceEq, Int.reduceMul, Int.cast_ofNat_Int, Nat.zero_add, Nat.add_zero, Nat.le_refl, eq_self, ne_eq, reduceCtorEq, or_true, true_or, or_false, false_or, Bool.or_true, Bool.or_false, Bool.true_or, Bool.false_or, Nat.zero_le, Int.le_refl, Int.ofNat_zero, Int.ofNat_one, Bool.false_eq_true]
        try simp only [ab_in]
        (repeat' (first | intro _ | refine And.intro ?_ ?_)) <;> (first | exact hk3 | exact rfl | contradiction | omega | (exfalso; omega))
      clear hK hk2 fo hg hg2 r0 r1 r2 mb hsl0 u2 u3
      dsimp only at hnb
      have hfr2 : isFreeF S row from9 wide = true := by rw [← hfr]; exact c4
      refine hV (fun p => p == 63) 80 _ _ _ _ _ _ ?_
      simp only [hnb, hrg, hfit, hfr2, bI_in, bI_0, bI_1, bI_t, bI_f, bI_01, Tr_X3_lay, ae_aload_n, ae_iload, ae_iload_n, ae_invokevirtual, dL_lays_53, dL_lays_54, dL_lays_55, dL_lays_56, dL_lays_58, dL_lays_60, ca_L_lays_9, ca_L_lays_19, ca_L_lays_23, ca_L_lays_27, ab_wp0, ab_wps, ab_stp, ab_g, ab_st, ab_k2, ab_cl, ab_pop, ab_sz, ab_2, ab_ret, ab_f4, ab_tg, ab_I, ab_II, ab_A, ab_Rf, ab_VR, ab_IR, ab_VIR, ab_1, ab_LL, ab_DD, ab_ob, ab_pr, ab_qr, ab_ln, ab_so, ab_vI, ab_vA, ab_vD, ab_vL, ab_v2, ab_c, ab_fit, ab_rv, ab_tsw, ab_lsw, ab_up_eq, Fin.isValue, ab_f0, ab_f1, ab_f2, ab_f3, List.getElem?_cons_zero, List.getElem?_cons_succ, List.set_cons_zero, List.set_cons_succ, List.length_cons, List.length_nil, List.size_toArray, List.head?_cons, List.tail_cons, Option.map_some, cond_true, cond_false, true_and, and_true, false_and, and_false, not_true_eq_false, not_false_eq_true, true_imp_iff, false_imp_iff, if_true, if_false, ite_true, ite_false, ↓reduceIte, Nat.reduceAdd, Nat.reduceEqDiff, Nat.reduceLeDiff, Nat.reduceLT, Nat.reduceBEq, Nat.reduceBNe, Int.reduceAdd, Int.reduceNeg, Int.reduceSub, Int.reduceLE, Int.reduceLT, Int.reduceToNat, Int.reduceEq, Int.reduceMul, Int.cast_ofNat_Int, Nat.zero_add, Nat.add_zero, Nat.le_refl, eq_self, ne_eq, reduceCtorEq, or_true, true_or, or_false, false_or, Bool.or_true, Bool.or_false, Bool.true_or, Bool.false_or, Nat.zero_le, Int.le_refl, Int.ofNat_zero, Int.ofNat_one, Bool.false_eq_true]
      try simp only [ab_in]
      (repeat' (first | intro _ | refine And.intro ?_ ?_)) <;> (first | exact aft _ (by assumption) (by assumption) | exact rfl | contradiction | omega | (exfalso; omega))
    clear hK hp r0 r1 r2 mb hsl0
    by_cases c1 : from9 + wide ≤ 12
    · have c1' : ¬ 12 < from9 + wide := by omega
      by_cases c2 : onS M 0 = 60
      · refine hV (fun p => p == 53) 80 _ _ _ _ _ _ ?_
        simp only [c1', hQ2, D, D0, c2, bI_in, bI_0, bI_1, bI_t, bI_f, bI_01, Tr_X4_on, ae_aload_n, ae_arraylength, ae_bipush, ae_getfield, ae_iadd, ae_iconst, ae_ifCond, ae_if_icmp, ae_iload, ae_iload_n, ae_invokevirtual, ae_ireturn, ae_sipush, dL_lays_0, dL_lays_1, dL_lays_3, dL_lays_4, dL_lays_6, dL_lays_9, dL_lays_10, dL_lays_11, dL_lays_14, dL_lays_16, dL_lays_19, dL_lays_20, dL_lays_23, dL_lays_24, dL_lays_27, dL_lays_30, dL_lays_31, dL_lays_32, dL_lays_33, dL_lays_35, dL_lays_38, dL_lays_41, dL_lays_42, dL_lays_43, dL_lays_44, dL_lays_45, dL_lays_46, dL_lays_48, dL_lays_50, tbL_g15, ca_L_lays_9, ca_L_lays_19, ca_L_lays_23, ca_L_lays_27, ab_wp0, ab_wps, ab_stp, ab_g, ab_st, ab_k2, ab_cl, ab_pop, ab_sz, ab_2, ab_ret, ab_f4, ab_tg, ab_I, ab_II, ab_A, ab_Rf, ab_VR, ab_IR, ab_VIR, ab_1, ab_LL, ab_DD, ab_ob, ab_pr, ab_qr, ab_ln, ab_so, ab_vI, ab_vA, ab_vD, ab_vL, ab_v2, ab_c, ab_fit, ab_rv, ab_tsw, ab_lsw, ab_up_eq, Fin.isValue, ab_f0, ab_f1, ab_f2, ab_f3, List.getElem?_cons_zero, List.getElem?_cons_succ, List.set_cons_zero, List.set_cons_succ, List.length_cons, List.length_nil, List.size_toArray, List.head?_cons, List.tail_cons, Option.map_some, cond_true, cond_false, true_and, and_true, false_and, and_false, not_true_eq_false, not_false_eq_true, true_imp_iff, false_imp_iff, if_true, if_false, ite_true, ite_false, ↓reduceIte, Nat.reduceAdd, Nat.reduceEqDiff, Nat.reduceLeDiff, Nat.reduceLT, Nat.reduceBEq, Nat.reduceBNe, Int.reduceAdd, Int.reduceNeg, Int.reduceSub, Int.reduceLE, Int.reduceLT, Int.reduceToNat, Int.reduceEq, Int.reduceMul, Int.cast_ofNat_Int, Nat.zero_add, Nat.add_zero, Nat.le_refl, eq_self, ne_eq, reduceCtorEq, or_true, true_or, or_false, false_or, Bool.or_true, Bool.or_false, Bool.true_or, Bool.false_or, Nat.zero_le, Int.le_refl, Int.ofNat_zero, Int.ofNat_one, Bool.false_eq_true]
        try simp only [ab_in]
        (repeat' (first | intro _ | refine And.intro ?_ ?_)) <;> (first | exact hk2 | exact rfl | contradiction | omega | (exfalso; omega))
      · by_cases c3 : (M.n : Int) = 200
        · refine hV (fun p => p == 53) 80 _ _ _ _ _ _ ?_
          simp only [c1', hQ2, D, D0, c2, c3, bI_in, bI_0, bI_1, bI_t, bI_f, bI_01, Tr_X4_on, ae_aload_n, ae_arraylength, ae_bipush, ae_getfield, ae_iadd, ae_iconst, ae_ifCond, ae_if_icmp, ae_iload, ae_iload_n, ae_invokevirtual, ae_ireturn, ae_sipush, dL_lays_0, dL_lays_1, dL_lays_3, dL_lays_4, dL_lays_6, dL_lays_9, dL_lays_10, dL_lays_11, dL_lays_14, dL_lays_16, dL_lays_19, dL_lays_20, dL_lays_23, dL_lays_24, dL_lays_27, dL_lays_30, dL_lays_31, dL_lays_32, dL_lays_33, dL_lays_35, dL_lays_38, dL_lays_41, dL_lays_42, dL_lays_43, dL_lays_44, dL_lays_45, dL_lays_46, dL_lays_48, dL_lays_50, tbL_g15, ca_L_lays_9, ca_L_lays_19, ca_L_lays_23, ca_L_lays_27, ab_wp0, ab_wps, ab_stp, ab_g, ab_st, ab_k2, ab_cl, ab_pop, ab_sz, ab_2, ab_ret, ab_f4, ab_tg, ab_I, ab_II, ab_A, ab_Rf, ab_VR, ab_IR, ab_VIR, ab_1, ab_LL, ab_DD, ab_ob, ab_pr, ab_qr, ab_ln, ab_so, ab_vI, ab_vA, ab_vD, ab_vL, ab_v2, ab_c, ab_fit, ab_rv, ab_tsw, ab_lsw, ab_up_eq, Fin.isValue, ab_f0, ab_f1, ab_f2, ab_f3, List.getElem?_cons_zero, List.getElem?_cons_succ, List.set_cons_zero, List.set_cons_succ, List.length_cons, List.length_nil, List.size_toArray, List.head?_cons, List.tail_cons, Option.map_some, cond_true, cond_false, true_and, and_true, false_and, and_false, not_true_eq_false, not_false_eq_true, true_imp_iff, false_imp_iff, if_true, if_false, ite_true, ite_false, ↓reduceIte, Nat.reduceAdd, Nat.reduceEqDiff, Nat.reduceLeDiff, Nat.reduceLT, Nat.reduceBEq, Nat.reduceBNe, Int.reduceAdd, Int.reduceNeg, Int.reduceSub, Int.reduceLE, Int.reduceLT, Int.reduceToNat, Int.reduceEq, Int.reduceMul, Int.cast_ofNat_Int, Nat.zero_add, Nat.add_zero, Nat.le_refl, eq_self, ne_eq, reduceCtorEq, or_true, true_or, or_false, false_or, Bool.or_true, Bool.or_false, Bool.true_or, Bool.false_or, Nat.zero_le, Int.le_refl, Int.ofNat_zero, Int.ofNat_one, Bool.false_eq_true]
          try simp only [ab_in]
          (repeat' (first | intro _ | refine And.intro ?_ ?_)) <;> (first | exact hk2 | exact rfl | contradiction | omega | (exfalso; omega))
        · cases c4 : freeS M row from9 wide
          · refine hV (fun p => p == 53) 80 _ _ _ _ _ _ ?_
            simp only [c1', hQ2, D, D0, c2, c3, c4, bI_in, bI_0, bI_1, bI_t, bI_f, bI_01, Tr_X4_on, Tr_X4_isFree, ae_aload_n, ae_arraylength, ae_bipush, ae_getfield, ae_iadd, ae_iconst, ae_ifCond, ae_if_icmp, ae_iload, ae_iload_n, ae_invokevirtual, ae_ireturn, ae_sipush, dL_lays_0, dL_lays_1, dL_lays_3, dL_lays_4, dL_lays_6, dL_lays_9, dL_lays_10, dL_lays_11, dL_lays_14, dL_lays_16, dL_lays_19, dL_lays_20, dL_lays_23, dL_lays_24, dL_lays_27, dL_lays_30, dL_lays_31, dL_lays_32, dL_lays_33, dL_lays_35, dL_lays_38, dL_lays_41, dL_lays_42, dL_lays_43, dL_lays_44, dL_lays_45, dL_lays_46, dL_lays_48, dL_lays_50, tbL_g15, ca_L_lays_9, ca_L_lays_19, ca_L_lays_23, ca_L_lays_27, ab_wp0, ab_wps, ab_stp, ab_g, ab_st, ab_k2, ab_cl, ab_pop, ab_sz, ab_2, ab_ret, ab_f4, ab_tg, ab_I, ab_II, ab_A, ab_Rf, ab_VR, ab_IR, ab_VIR, ab_1, ab_LL, ab_DD, ab_ob, ab_pr, ab_qr, ab_ln, ab_so, ab_vI, ab_vA, ab_vD, ab_vL, ab_v2, ab_c, ab_fit, ab_rv, ab_tsw, ab_lsw, ab_up_eq, Fin.isValue, ab_f0, ab_f1, ab_f2, ab_f3, List.getElem?_cons_zero, List.getElem?_cons_succ, List.set_cons_zero, List.set_cons_succ, List.length_cons, List.length_nil, List.size_toArray, List.head?_cons, List.tail_cons, Option.map_some, cond_true, cond_false, true_and, and_true, false_and, and_false, not_true_eq_false, not_false_eq_true, true_imp_iff, false_imp_iff, if_true, if_false, ite_true, ite_false, ↓reduceIte, Nat.reduceAdd, Nat.reduceEqDiff, Nat.reduceLeDiff, Nat.reduceLT, Nat.reduceBEq, Nat.reduceBNe, Int.reduceAdd, Int.reduceNeg, Int.reduceSub, Int.reduceLE, Int.reduceLT, Int.reduceToNat, Int.reduceEq, Int.reduceMul, Int.cast_ofNat_Int, Nat.zero_add, Nat.add_zero, Nat.le_refl, eq_self, ne_eq, reduceCtorEq, or_true, true_or, or_false, false_or, Bool.or_true, Bool.or_false, Bool.true_or, Bool.false_or, Nat.zero_le, Int.le_refl, Int.ofNat_zero, Int.ofNat_one, Bool.false_eq_true]
            try simp only [ab_in]
            (repeat' (first | intro _ | refine And.intro ?_ ?_)) <;> (first | exact hk2 | exact rfl | contradiction | omega | (exfalso; omega))
          · have fin2 := fun h1 N1 u1 u2 u3 => fin h1 N1 u1 u2 u3 c1 c2 c3 c4
            clear fin
            refine hV (fun p => p == 53) 80 _ _ _ _ _ _ ?_
            simp only [c1', hQ2, D, D0, c2, c3, c4, bI_in, bI_0, bI_1, bI_t, bI_f, bI_01, Tr_X4_on, Tr_X4_isFree, Tr_X4_add, ae_aload_n, ae_arraylength, ae_bipush, ae_getfield, ae_iadd, ae_iconst, ae_ifCond, ae_if_icmp, ae_iload, ae_iload_n, ae_invokevirtual, ae_ireturn, ae_sipush, dL_lays_0, dL_lays_1, dL_lays_3, dL_lays_4, dL_lays_6, dL_lays_9, dL_lays_10, dL_lays_11, dL_lays_14, dL_lays_16, dL_lays_19, dL_lays_20, dL_lays_23, dL_lays_24, dL_lays_27, dL_lays_30, dL_lays_31, dL_lays_32, dL_lays_33, dL_lays_35, dL_lays_38, dL_lays_41, dL_lays_42, dL_lays_43, dL_lays_44, dL_lays_45, dL_lays_46, dL_lays_48, dL_lays_50, tbL_g15, ca_L_lays_9, ca_L_lays_19, ca_L_lays_23, ca_L_lays_27, ab_wp0, ab_wps, ab_stp, ab_g, ab_st, ab_k2, ab_cl, ab_pop, ab_sz, ab_2, ab_ret, ab_f4, ab_tg, ab_I, ab_II, ab_A, ab_Rf, ab_VR, ab_IR, ab_VIR, ab_1, ab_LL, ab_DD, ab_ob, ab_pr, ab_qr, ab_ln, ab_so, ab_vI, ab_vA, ab_vD, ab_vL, ab_v2, ab_c, ab_fit, ab_rv, ab_tsw, ab_lsw, ab_up_eq, Fin.isValue, ab_f0, ab_f1, ab_f2, ab_f3, List.getElem?_cons_zero, List.getElem?_cons_succ, List.set_cons_zero, List.set_cons_succ, List.length_cons, List.length_nil, List.size_toArray, List.head?_cons, List.tail_cons, Option.map_some, cond_true, cond_false, true_and, and_true, false_and, and_false, not_true_eq_false, not_false_eq_true, true_imp_iff, false_imp_iff, if_true, if_false, ite_true, ite_false, ↓reduceIte, Nat.reduceAdd, Nat.reduceEqDiff, Nat.reduceLeDiff, Nat.reduceLT, Nat.reduceBEq, Nat.reduceBNe, Int.reduceAdd, Int.reduceNeg, Int.reduceSub, Int.reduceLE, Int.reduceLT, Int.reduceToNat, Int.reduceEq, Int.reduceMul, Int.cast_ofNat_Int, Nat.zero_add, Nat.add_zero, Nat.le_refl, eq_self, ne_eq, reduceCtorEq, or_true, true_or, or_false, false_or, Bool.or_true, Bool.or_false, Bool.true_or, Bool.false_or, Nat.zero_le, Int.le_refl, Int.ofNat_zero, Int.ofNat_one, Bool.false_eq_true]
            try simp only [ab_in]
            (repeat' (first | intro _ | refine And.intro ?_ ?_)) <;> (first | exact fin2 _ _ (by assumption) (by assumption) (by assumption) | exact rfl | contradiction | omega | (exfalso; omega))
    · have c1' : 12 < from9 + wide := by omega
      refine hV (fun p => p == 53) 80 _ _ _ _ _ _ ?_
      simp only [c1', bI_in, bI_0, bI_1, bI_t, bI_f, bI_01, ae_aload_n, ae_arraylength, ae_bipush, ae_getfield, ae_iadd, ae_iconst, ae_ifCond, ae_if_icmp, ae_iload, ae_iload_n, ae_invokevirtual, ae_ireturn, ae_sipush, dL_lays_0, dL_lays_1, dL_lays_3, dL_lays_4, dL_lays_6, dL_lays_9, dL_lays_10, dL_lays_11, dL_lays_14, dL_lays_16, dL_lays_19, dL_lays_20, dL_lays_23, dL_lays_24, dL_lays_27, dL_lays_30, dL_lays_31, dL_lays_32, dL_lays_33, dL_lays_35, dL_lays_38, dL_lays_41, dL_lays_42, dL_lays_43, dL_lays_44, dL_lays_45, dL_lays_46, dL_lays_48, dL_lays_50, tbL_g15, ca_L_lays_9, ca_L_lays_19, ca_L_lays_23, ca_L_lays_27, ab_wp0, ab_wps, ab_stp, ab_g, ab_st, ab_k2, ab_cl, ab_pop, ab_sz, ab_2, ab_ret, ab_f4, ab_tg, ab_I, ab_II, ab_A, ab_Rf, ab_VR, ab_IR, ab_VIR, ab_1, ab_LL, ab_DD, ab_ob, ab_pr, ab_qr, ab_ln, ab_so, ab_vI, ab_vA, ab_vD, ab_vL, ab_v2, ab_c, ab_fit, ab_rv, ab_tsw, ab_lsw, ab_up_eq, Fin.isValue, ab_f0, ab_f1, ab_f2, ab_f3, List.getElem?_cons_zero, List.getElem?_cons_succ, List.set_cons_zero, List.set_cons_succ, List.length_cons, List.length_nil, List.size_toArray, List.head?_cons, List.tail_cons, Option.map_some, cond_true, cond_false, true_and, and_true, false_and, and_false, not_true_eq_false, not_false_eq_true, true_imp_iff, false_imp_iff, if_true, if_false, ite_true, ite_false, ↓reduceIte, Nat.reduceAdd, Nat.reduceEqDiff, Nat.reduceLeDiff, Nat.reduceLT, Nat.reduceBEq, Nat.reduceBNe, Int.reduceAdd, Int.reduceNeg, Int.reduceSub, Int.reduceLE, Int.reduceLT, Int.reduceToNat, Int.reduceEq, Int.reduceMul, Int.cast_ofNat_Int, Nat.zero_add, Nat.add_zero, Nat.le_refl, eq_self, ne_eq, reduceCtorEq, or_true, true_or, or_false, false_or, Bool.or_true, Bool.or_false, Bool.true_or, Bool.false_or, Nat.zero_le, Int.le_refl, Int.ofNat_zero, Int.ofNat_one, Bool.false_eq_true]
      try simp only [ab_in]
      (repeat' (first | intro _ | refine And.intro ?_ ?_)) <;> (first | exact hk2 | exact rfl | contradiction | omega | (exfalso; omega))
  · exact hT.elim
set_option maxRecDepth 100000 in
theorem con_L_lays (l : Launch) (D : va_G) (ty : Nat → ClassId) (base : Nat) : ab_Con l D vwCl ty lw_ts base lw_wd yL_lays cL_lays 6 (some .boolean) 4 95 2 206 Tr_L_lays :=
  ab_con_of (own := RL) (rt := 2) (tb := tbL) (ini := false) (ca := ca_L_lays) (by decide +kernel) rfl (fun h => by cases h) rfl lw_wd_ok wtbL lw_ar cm_L_lays
    (fun p e R s m args below meth c K hcx => by
      obtain ⟨hx, hb, hml, hown, hF, rfl⟩ := hcx
      exact ab_lk_all (ab_all_c (ab_tc_V hx hb hml hown lw_wd_ok hF ⟨rfl, rfl⟩ (con_X4_on l D ty base) rfl (lw_wi (by decide +kernel) (by decide +kernel)) (lw_wi (by decide +kernel) (by decide +kernel)) (lw_wi (by decide +kernel) (by decide +kernel)) (lw_wi (by decide +kernel) (by decide +kernel)) (lw_wi (by decide +kernel) (by decide +kernel)) (by decide +kernel) ⟨by decide, by decide⟩) (ab_all_c (ab_tc_V hx hb hml hown lw_wd_ok hF ⟨rfl, rfl⟩ (con_X4_isFree l D ty base) rfl (lw_wi (by decide +kernel) (by decide +kernel)) (lw_wi (by decide +kernel) (by decide +kernel)) (lw_wi (by decide +kernel) (by decide +kernel)) (lw_wi (by decide +kernel) (by decide +kernel)) (lw_wi (by decide +kernel) (by decide +kernel)) (by decide +kernel) ⟨by decide, by decide⟩) (ab_all_c (ab_tc_V hx hb hml hown lw_wd_ok hF ⟨rfl, rfl⟩ (con_X4_add l D ty base) rfl (lw_wi (by decide +kernel) (by decide +kernel)) (lw_wi (by decide +kernel) (by decide +kernel)) (lw_wi (by decide +kernel) (by decide +kernel)) (lw_wi (by decide +kernel) (by decide +kernel)) (lw_wi (by decide +kernel) (by decide +kernel)) (by decide +kernel) ⟨by decide, by decide⟩) (ab_all_c (ab_tc_V hx hb hml hown lw_wd_ok hF ⟨rfl, rfl⟩ (con_X3_lay l D ty base) rfl (lw_wi (by decide +kernel) (by decide +kernel)) (lw_wi (by decide +kernel) (by decide +kernel)) (lw_wi (by decide +kernel) (by decide +kernel)) (lw_wi (by decide +kernel) (by decide +kernel)) (lw_wi (by decide +kernel) (by decide +kernel)) (by decide +kernel) ⟨by decide, by decide⟩) (ab_all_n))))))
    (by intro as h K ht; unfold Tr_L_lays at ht; split at ht <;> first | exact ht.elim | exact Nat.le_of_ble_eq_true rfl) (sem_L_lays base)
