/-! ===== the reference: what is kept and brought back ===== -/
def kpAt (h : AH) (q : Nat) (L : List Nat) (v : MV) : Prop := ∃ (s0 s1 s2 s3 : Nat) (g : Int → Option Nat), h q = some (.inr (.inr (3, 4, g))) ∧ (g 0 = some s0 ∧ g 1 = some s1 ∧ g 2 = some s2 ∧ g 3 = some s3) ∧ (h s0 = some (.inr (.inl (0, 1200, v.fst9))) ∧ h s1 = some (.inr (.inl (0, 96, v.fat))) ∧ h s2 = some (.inr (.inl (0, 96, v.frt))) ∧ h s3 = some (.inr (.inl (0, 2, v.fnm)))) ∧ (q ∉ L ∧ s0 ∉ L ∧ s1 ∉ L ∧ s2 ∉ L ∧ s3 ∉ L)
theorem kpAt.fr {h h' : AH} {q : Nat} {L M : List Nat} {v : MV} (hk : kpAt h q L v) (hf : ab_kp h h' M) (hs : ∀ b ∈ M, b ∈ L) : kpAt h' q L v := by
  obtain ⟨s0, s1, s2, s3, g, k1, k2, ⟨a0, a1, a2, a3⟩, ⟨n, n0, n1, n2, n3⟩⟩ := hk
  have nn : ∀ (x : Nat) (c : AC), h x = some c → h x ≠ none := fun x c e => by rw [e]; exact fun q => by cases q
  exact ⟨s0, s1, s2, s3, g, (hf _ (nn _ _ k1) (fun e => n (hs _ e))).trans k1, k2, ⟨(hf _ (nn _ _ a0) (fun e => n0 (hs _ e))).trans a0, (hf _ (nn _ _ a1) (fun e => n1 (hs _ e))).trans a1, (hf _ (nn _ _ a2) (fun e => n2 (hs _ e))).trans a2, (hf _ (nn _ _ a3) (fun e => n3 (hs _ e))).trans a3⟩, ⟨n, n0, n1, n2, n3⟩⟩
noncomputable def Tr_X4_kept : ATr := fun as h K => match as with
  | [.inr (.inl (some a))] => ab_so (ab_md h a) fun P => (P.2.sl = 0) ∧ ∀ h' q, kpAt h' q (mdL a P.1) P.2 → h q = none → (∀ b, h b ≠ none → h' b = h b) → K (some (.inr (.inl (some q)))) h'
  | _ => False
theorem mo_X4_kept : ab_mo Tr_X4_kept := by
  intro as h K K' hk ht
  unfold Tr_X4_kept at ht ⊢
  split at ht
  · exact ab_so_mo (fun P q => ⟨q.1, fun h' v' e1 e2 e3 => hk _ _ (q.2 h' v' e1 e2 e3)⟩) ht
  · exact ht.elim
def ca_X4_kept : Nat → Option ACS := ab_lk [(136, (3, 0, 1, 1, 1200, Tr_clone))]
theorem ca_X4_kept_136 : ca_X4_kept 136 = some (3, 0, 1, 1, 1200, Tr_clone) := rfl
theorem cm_X4_kept : ∀ i q, ca_X4_kept i = some q → ab_moq i q := ab_lk_all (ab_all_c Tr_clone_mo (ab_all_n))
set_option maxRecDepth 100000 in
set_option maxHeartbeats 4000000 in
theorem sem_X4_kept (base : Nat) : ab_Sem tbX4 lw_ts base cX4_kept ca_X4_kept 3 1 5 4804 (fun as => ab_en as 1) Tr_X4_kept := by
  intro as h K hT V hV
  unfold Tr_X4_kept at hT
  split at hT
  · rename_i a
    obtain ⟨⟨⟨b0, b1, b2, b3, b4, b5⟩, th, sl, f0, f1, f2, f3, f4, f5⟩, hP, hb, hK⟩ := ab_so_el hT
    dsimp only at hb hK
    subst hb
    have hm := md_el hP
    obtain ⟨c, c0, c1, c2, c3, c4, c5, -⟩ := id hm
    dsimp only [mdC, MV.thr, MV.sl, MV.fst9, MV.fat, MV.frt, MV.ftb, MV.fnm, MV.fmk] at c c0 c1 c2 c3 c4 c5
    have nn : ∀ (x : Nat) (cc : AC), h x = some cc → h x ≠ none := fun x c e => by rw [e]; exact fun q => by cases q
    have hL : ∀ x, h x = none → x ∉ mdL a (b0, b1, b2, b3, b4, b5) := by
      intro x hx hm
      simp only [mdL, List.mem_cons, List.not_mem_nil, or_false] at hm
      rcases hm with rfl | rfl | rfl | rfl | rfl | rfl | rfl <;> simp_all
    show V 0 [some (.inr (.inl (some a)))] [] h 0 0
    have st4 : ∀ (q : Nat) (hi : AH) (gi : Int → Option Nat) (s0 : Nat) (s1 : Nat) (s2 : Nat) (s3 : Nat), hi q = some (.inr (.inr (3, 4, gi))) → h q = none → (∀ b, h b ≠ none → hi b = h b) → gi 0 = some s0 → hi s0 = some (.inr (.inl (0, 1200, f0))) → h s0 = none → gi 1 = some s1 → hi s1 = some (.inr (.inl (0, 96, f1))) → h s1 = none → gi 2 = some s2 → hi s2 = some (.inr (.inl (0, 96, f2))) → h s2 = none → gi 3 = some s3 → hi s3 = some (.inr (.inl (0, 2, f4))) → h s3 = none → V 56 [some (.inr (.inl (some a)))] [.inr (.inl (some q))] hi 5 4804 := by
      intro q hi gi s0 s1 s2 s3 w1 w2 w3 u0 v0 n0 u1 v1 n1 u2 v2 n2 u3 v3 n3
      have hk := hK hi q ⟨s0, s1, s2, s3, gi, w1, ⟨u0, u1, u2, u3⟩, ⟨v0, v1, v2, v3⟩, ⟨hL _ w2, hL _ n0, hL _ n1, hL _ n2, hL _ n3⟩⟩ w2 w3
      refine hV (fun _ => false) 80 _ _ _ _ _ _ ?_
      simp only [ae_areturn, dX4_kept_56, ca_X4_kept_136, ab_wp0, ab_wps, ab_stp, ab_g, ab_st, ab_k2, ab_cl, ab_pop, ab_sz, ab_2, ab_ret, ab_f4, ab_tg, ab_I, ab_II, ab_A, ab_Rf, ab_VR, ab_IR, ab_VIR, ab_1, ab_LL, ab_DD, ab_ob, ab_pr, ab_qr, ab_ln, ab_so, ab_vI, ab_vA, ab_vD, ab_vL, ab_v2, ab_c, ab_fit, ab_rv, ab_tsw, ab_lsw, ab_up_eq, Fin.isValue, ab_f0, ab_f1, ab_f2, ab_f3, List.getElem?_cons_zero, List.getElem?_cons_succ, List.set_cons_zero, List.set_cons_succ, List.length_cons, List.length_nil, List.size_toArray, List.head?_cons, List.tail_cons, Option.map_some, cond_true, cond_false, true_and, and_true, false_and, and_false, not_true_eq_false, not_false_eq_true, true_imp_iff, false_imp_iff, if_true, if_false, ite_true, ite_false, ↓reduceIte, Nat.reduceAdd, Nat.reduceEqDiff, Nat.reduceLeDiff, Nat.reduceLT, Nat.reduceBEq, Nat.reduceBNe, Int.reduceAdd, Int.reduceNeg, Int.reduceSub, Int.reduceLE, Int.reduceLT, Int.reduceToNat, Int.reduceEq, Int.reduceMul, Int.cast_ofNat_Int, Nat.zero_add, Nat.add_zero, Nat.le_refl, eq_self, ne_eq, reduceCtorEq, or_true, true_or, or_false, false_or, Bool.or_true, Bool.or_false, Bool.true_or, Bool.false_or, Nat.zero_le, Int.le_refl, Int.ofNat_zero, Int.ofNat_one, Bool.false_eq_true]
      exact hk
    have st3 : ∀ (q : Nat) (hi : AH) (gi : Int → Option Nat) (s0 : Nat) (s1 : Nat) (s2 : Nat), hi q = some (.inr (.inr (3, 4, gi))) → h q = none → (∀ b, h b ≠ none → hi b = h b) → gi 0 = some s0 → hi s0 = some (.inr (.inl (0, 1200, f0))) → h s0 = none → gi 1 = some s1 → hi s1 = some (.inr (.inl (0, 96, f1))) → h s1 = none → gi 2 = some s2 → hi s2 = some (.inr (.inl (0, 96, f2))) → h s2 = none → V 43 [some (.inr (.inl (some a)))] [.inr (.inl (some q))] hi 4 3604 := by
      intro q hi gi s0 s1 s2 w1 w2 w3 u0 v0 n0 u1 v1 n1 u2 v2 n2
      have ha := (w3 a (nn _ _ c)).trans c
      have hb := (w3 b4 (nn _ _ c4)).trans c4
      refine hV (fun p => p == 52) 80 _ _ _ _ _ _ ?_
      simp only [ha, hb, Tr_clone, ae_aload_n, ae_dup, ae_getfield, ae_iconst, ae_invokevirtual, dX4_kept_43, dX4_kept_44, dX4_kept_45, dX4_kept_46, dX4_kept_49, tbX4_g22, ca_X4_kept_136, ab_wp0, ab_wps, ab_stp, ab_g, ab_st, ab_k2, ab_cl, ab_pop, ab_sz, ab_2, ab_ret, ab_f4, ab_tg, ab_I, ab_II, ab_A, ab_Rf, ab_VR, ab_IR, ab_VIR, ab_1, ab_LL, ab_DD, ab_ob, ab_pr, ab_qr, ab_ln, ab_so, ab_vI, ab_vA, ab_vD, ab_vL, ab_v2, ab_c, ab_fit, ab_rv, ab_tsw, ab_lsw, ab_up_eq, Fin.isValue, ab_f0, ab_f1, ab_f2, ab_f3, List.getElem?_cons_zero, List.getElem?_cons_succ, List.set_cons_zero, List.set_cons_succ, List.length_cons, List.length_nil, List.size_toArray, List.head?_cons, List.tail_cons, Option.map_some, cond_true, cond_false, true_and, and_true, false_and, and_false, not_true_eq_false, not_false_eq_true, true_imp_iff, false_imp_iff, if_true, if_false, ite_true, ite_false, ↓reduceIte, Nat.reduceAdd, Nat.reduceEqDiff, Nat.reduceLeDiff, Nat.reduceLT, Nat.reduceBEq, Nat.reduceBNe, Int.reduceAdd, Int.reduceNeg, Int.reduceSub, Int.reduceLE, Int.reduceLT, Int.reduceToNat, Int.reduceEq, Int.reduceMul, Int.cast_ofNat_Int, Nat.zero_add, Nat.add_zero, Nat.le_refl, eq_self, ne_eq, reduceCtorEq, or_true, true_or, or_false, false_or, Bool.or_true, Bool.or_false, Bool.true_or, Bool.false_or, Nat.zero_le, Int.le_refl, Int.ofNat_zero, Int.ofNat_one, Bool.false_eq_true]
      intro s fr
      have e1 := ab_none_ne w1 fr
      have hs0 : h s = none := by
        cases hx : h s with
        | none => rfl
        | some cc => rw [w3 s (nn _ _ hx), hx] at fr; cases fr
      have e_0 := ab_none_ne v0 fr
      have e_1 := ab_none_ne v1 fr
      have e_2 := ab_none_ne v2 fr
      have d_0 : ¬ s0 = q := fun z => by rw [z, w1] at v0; cases v0
      have d_1 : ¬ s1 = q := fun z => by rw [z, w1] at v1; cases v1
      have d_2 : ¬ s2 = q := fun z => by rw [z, w1] at v2; cases v2
      have nx := st4 q (ab_up (ab_up hi s (.inr (.inl (0, 2, f4)))) q (.inr (.inr (3, 4, ab_uf gi 3 (some s))))) (ab_uf gi 3 (some s)) s0 s1 s2 s (ab_up_eq _ _ _) w2 (fun b hb => by rw [ab_up_ap, if_neg (fun z => hb (by rw [z]; exact w2)), ab_up_ap, if_neg (fun z => hb (by rw [z]; exact hs0))]; exact w3 b hb) (by simp only [ab_uf]; rw [if_neg (by decide)]; exact u0) (by simp only [ab_up_ap, d_0, e_0, if_false]; exact v0) n0 (by simp only [ab_uf]; rw [if_neg (by decide)]; exact u1) (by simp only [ab_up_ap, d_1, e_1, if_false]; exact v1) n1 (by simp only [ab_uf]; rw [if_neg (by decide)]; exact u2) (by simp only [ab_up_ap, d_2, e_2, if_false]; exact v2) n2 (by simp only [ab_uf, if_true]) (by simp only [ab_up_ap, e1, if_false, if_true]) hs0
      refine hV (fun p => p == 56) 80 _ _ _ _ _ _ ?_
      simp only [ab_up_ap, e1, w1, ae_aastore, ae_checkcast, dX4_kept_52, dX4_kept_55, tbX4_a135, ca_X4_kept_136, ab_wp0, ab_wps, ab_stp, ab_g, ab_st, ab_k2, ab_cl, ab_pop, ab_sz, ab_2, ab_ret, ab_f4, ab_tg, ab_I, ab_II, ab_A, ab_Rf, ab_VR, ab_IR, ab_VIR, ab_1, ab_LL, ab_DD, ab_ob, ab_pr, ab_qr, ab_ln, ab_so, ab_vI, ab_vA, ab_vD, ab_vL, ab_v2, ab_c, ab_fit, ab_rv, ab_tsw, ab_lsw, ab_up_eq, Fin.isValue, ab_f0, ab_f1, ab_f2, ab_f3, List.getElem?_cons_zero, List.getElem?_cons_succ, List.set_cons_zero, List.set_cons_succ, List.length_cons, List.length_nil, List.size_toArray, List.head?_cons, List.tail_cons, Option.map_some, cond_true, cond_false, true_and, and_true, false_and, and_false, not_true_eq_false, not_false_eq_true, true_imp_iff, false_imp_iff, if_true, if_false, ite_true, ite_false, ↓reduceIte, Nat.reduceAdd, Nat.reduceEqDiff, Nat.reduceLeDiff, Nat.reduceLT, Nat.reduceBEq, Nat.reduceBNe, Int.reduceAdd, Int.reduceNeg, Int.reduceSub, Int.reduceLE, Int.reduceLT, Int.reduceToNat, Int.reduceEq, Int.reduceMul, Int.cast_ofNat_Int, Nat.zero_add, Nat.add_zero, Nat.le_refl, eq_self, ne_eq, reduceCtorEq, or_true, true_or, or_false, false_or, Bool.or_true, Bool.or_false, Bool.true_or, Bool.false_or, Nat.zero_le, Int.le_refl, Int.ofNat_zero, Int.ofNat_one, Bool.false_eq_true]
      exact nx
    have st2 : ∀ (q : Nat) (hi : AH) (gi : Int → Option Nat) (s0 : Nat) (s1 : Nat), hi q = some (.inr (.inr (3, 4, gi))) → h q = none → (∀ b, h b ≠ none → hi b = h b) → gi 0 = some s0 → hi s0 = some (.inr (.inl (0, 1200, f0))) → h s0 = none → gi 1 = some s1 → hi s1 = some (.inr (.inl (0, 96, f1))) → h s1 = none → V 30 [some (.inr (.inl (some a)))] [.inr (.inl (some q))] hi 3 2404 := by
      intro q hi gi s0 s1 w1 w2 w3 u0 v0 n0 u1 v1 n1
      have ha := (w3 a (nn _ _ c)).trans c
      have hb := (w3 b2 (nn _ _ c2)).trans c2
      refine hV (fun p => p == 39) 80 _ _ _ _ _ _ ?_
      simp only [ha, hb, Tr_clone, ae_aload_n, ae_dup, ae_getfield, ae_iconst, ae_invokevirtual, dX4_kept_30, dX4_kept_31, dX4_kept_32, dX4_kept_33, dX4_kept_36, tbX4_g16, ca_X4_kept_136, ab_wp0, ab_wps, ab_stp, ab_g, ab_st, ab_k2, ab_cl, ab_pop, ab_sz, ab_2, ab_ret, ab_f4, ab_tg, ab_I, ab_II, ab_A, ab_Rf, ab_VR, ab_IR, ab_VIR, ab_1, ab_LL, ab_DD, ab_ob, ab_pr, ab_qr, ab_ln, ab_so, ab_vI, ab_vA, ab_vD, ab_vL, ab_v2, ab_c, ab_fit, ab_rv, ab_tsw, ab_lsw, ab_up_eq, Fin.isValue, ab_f0, ab_f1, ab_f2, ab_f3, List.getElem?_cons_zero, List.getElem?_cons_succ, List.set_cons_zero, List.set_cons_succ, List.length_cons, List.length_nil, List.size_toArray, List.head?_cons, List.tail_cons, Option.map_some, cond_true, cond_false, true_and, and_true, false_and, and_false, not_true_eq_false, not_false_eq_true, true_imp_iff, false_imp_iff, if_true, if_false, ite_true, ite_false, ↓reduceIte, Nat.reduceAdd, Nat.reduceEqDiff, Nat.reduceLeDiff, Nat.reduceLT, Nat.reduceBEq, Nat.reduceBNe, Int.reduceAdd, Int.reduceNeg, Int.reduceSub, Int.reduceLE, Int.reduceLT, Int.reduceToNat, Int.reduceEq, Int.reduceMul, Int.cast_ofNat_Int, Nat.zero_add, Nat.add_zero, Nat.le_refl, eq_self, ne_eq, reduceCtorEq, or_true, true_or, or_false, false_or, Bool.or_true, Bool.or_false, Bool.true_or, Bool.false_or, Nat.zero_le, Int.le_refl, Int.ofNat_zero, Int.ofNat_one, Bool.false_eq_true]
      intro s fr
      have e1 := ab_none_ne w1 fr
      have hs0 : h s = none := by
        cases hx : h s with
        | none => rfl
        | some cc => rw [w3 s (nn _ _ hx), hx] at fr; cases fr
      have e_0 := ab_none_ne v0 fr
      have e_1 := ab_none_ne v1 fr
      have d_0 : ¬ s0 = q := fun z => by rw [z, w1] at v0; cases v0
      have d_1 : ¬ s1 = q := fun z => by rw [z, w1] at v1; cases v1
      have nx := st3 q (ab_up (ab_up hi s (.inr (.inl (0, 96, f2)))) q (.inr (.inr (3, 4, ab_uf gi 2 (some s))))) (ab_uf gi 2 (some s)) s0 s1 s (ab_up_eq _ _ _) w2 (fun b hb => by rw [ab_up_ap, if_neg (fun z => hb (by rw [z]; exact w2)), ab_up_ap, if_neg (fun z => hb (by rw [z]; exact hs0))]; exact w3 b hb) (by simp only [ab_uf]; rw [if_neg (by decide)]; exact u0) (by simp only [ab_up_ap, d_0, e_0, if_false]; exact v0) n0 (by simp only [ab_uf]; rw [if_neg (by decide)]; exact u1) (by simp only [ab_up_ap, d_1, e_1, if_false]; exact v1) n1 (by simp only [ab_uf, if_true]) (by simp only [ab_up_ap, e1, if_false, if_true]) hs0
      refine hV (fun p => p == 43) 80 _ _ _ _ _ _ ?_
      simp only [ab_up_ap, e1, w1, ae_aastore, ae_checkcast, dX4_kept_39, dX4_kept_42, tbX4_a135, ca_X4_kept_136, ab_wp0, ab_wps, ab_stp, ab_g, ab_st, ab_k2, ab_cl, ab_pop, ab_sz, ab_2, ab_ret, ab_f4, ab_tg, ab_I, ab_II, ab_A, ab_Rf, ab_VR, ab_IR, ab_VIR, ab_1, ab_LL, ab_DD, ab_ob, ab_pr, ab_qr, ab_ln, ab_so, ab_vI, ab_vA, ab_vD, ab_vL, ab_v2, ab_c, ab_fit, ab_rv, ab_tsw, ab_lsw, ab_up_eq, Fin.isValue, ab_f0, ab_f1, ab_f2, ab_f3, List.getElem?_cons_zero, List.getElem?_cons_succ, List.set_cons_zero, List.set_cons_succ, List.length_cons, List.length_nil, List.size_toArray, List.head?_cons, List.tail_cons, Option.map_some, cond_true, cond_false, true_and, and_true, false_and, and_false, not_true_eq_false, not_false_eq_true, true_imp_iff, false_imp_iff, if_true, if_false, ite_true, ite_false, ↓reduceIte, Nat.reduceAdd, Nat.reduceEqDiff, Nat.reduceLeDiff, Nat.reduceLT, Nat.reduceBEq, Nat.reduceBNe, Int.reduceAdd, Int.reduceNeg, Int.reduceSub, Int.reduceLE, Int.reduceLT, Int.reduceToNat, Int.reduceEq, Int.reduceMul, Int.cast_ofNat_Int, Nat.zero_add, Nat.add_zero, Nat.le_refl, eq_self, ne_eq, reduceCtorEq, or_true, true_or, or_false, false_or, Bool.or_true, Bool.or_false, Bool.true_or, Bool.false_or, Nat.zero_le, Int.le_refl, Int.ofNat_zero, Int.ofNat_one, Bool.false_eq_true]
      exact nx
    have st1 : ∀ (q : Nat) (hi : AH) (gi : Int → Option Nat) (s0 : Nat), hi q = some (.inr (.inr (3, 4, gi))) → h q = none → (∀ b, h b ≠ none → hi b = h b) → gi 0 = some s0 → hi s0 = some (.inr (.inl (0, 1200, f0))) → h s0 = none → V 17 [some (.inr (.inl (some a)))] [.inr (.inl (some q))] hi 2 1204 := by
      intro q hi gi s0 w1 w2 w3 u0 v0 n0
      have ha := (w3 a (nn _ _ c)).trans c
      have hb := (w3 b1 (nn _ _ c1)).trans c1
      refine hV (fun p => p == 26) 80 _ _ _ _ _ _ ?_
      simp only [ha, hb, Tr_clone, ae_aload_n, ae_dup, ae_getfield, ae_iconst, ae_invokevirtual, dX4_kept_17, dX4_kept_18, dX4_kept_19, dX4_kept_20, dX4_kept_23, tbX4_g13, ca_X4_kept_136, ab_wp0, ab_wps, ab_stp, ab_g, ab_st, ab_k2, ab_cl, ab_pop, ab_sz, ab_2, ab_ret, ab_f4, ab_tg, ab_I, ab_II, ab_A, ab_Rf, ab_VR, ab_IR, ab_VIR, ab_1, ab_LL, ab_DD, ab_ob, ab_pr, ab_qr, ab_ln, ab_so, ab_vI, ab_vA, ab_vD, ab_vL, ab_v2, ab_c, ab_fit, ab_rv, ab_tsw, ab_lsw, ab_up_eq, Fin.isValue, ab_f0, ab_f1, ab_f2, ab_f3, List.getElem?_cons_zero, List.getElem?_cons_succ, List.set_cons_zero, List.set_cons_succ, List.length_cons, List.length_nil, List.size_toArray, List.head?_cons, List.tail_cons, Option.map_some, cond_true, cond_false, true_and, and_true, false_and, and_false, not_true_eq_false, not_false_eq_true, true_imp_iff, false_imp_iff, if_true, if_false, ite_true, ite_false, ↓reduceIte, Nat.reduceAdd, Nat.reduceEqDiff, Nat.reduceLeDiff, Nat.reduceLT, Nat.reduceBEq, Nat.reduceBNe, Int.reduceAdd, Int.reduceNeg, Int.reduceSub, Int.reduceLE, Int.reduceLT, Int.reduceToNat, Int.reduceEq, Int.reduceMul, Int.cast_ofNat_Int, Nat.zero_add, Nat.add_zero, Nat.le_refl, eq_self, ne_eq, reduceCtorEq, or_true, true_or, or_false, false_or, Bool.or_true, Bool.or_false, Bool.true_or, Bool.false_or, Nat.zero_le, Int.le_refl, Int.ofNat_zero, Int.ofNat_one, Bool.false_eq_true]
      intro s fr
      have e1 := ab_none_ne w1 fr
      have hs0 : h s = none := by
        cases hx : h s with
        | none => rfl
        | some cc => rw [w3 s (nn _ _ hx), hx] at fr; cases fr
      have e_0 := ab_none_ne v0 fr
      have d_0 : ¬ s0 = q := fun z => by rw [z, w1] at v0; cases v0
      have nx := st2 q (ab_up (ab_up hi s (.inr (.inl (0, 96, f1)))) q (.inr (.inr (3, 4, ab_uf gi 1 (some s))))) (ab_uf gi 1 (some s)) s0 s (ab_up_eq _ _ _) w2 (fun b hb => by rw [ab_up_ap, if_neg (fun z => hb (by rw [z]; exact w2)), ab_up_ap, if_neg (fun z => hb (by rw [z]; exact hs0))]; exact w3 b hb) (by simp only [ab_uf]; rw [if_neg (by decide)]; exact u0) (by simp only [ab_up_ap, d_0, e_0, if_false]; exact v0) n0 (by simp only [ab_uf, if_true]) (by simp only [ab_up_ap, e1, if_false, if_true]) hs0
      refine hV (fun p => p == 30) 80 _ _ _ _ _ _ ?_
      simp only [ab_up_ap, e1, w1, ae_aastore, ae_checkcast, dX4_kept_26, dX4_kept_29, tbX4_a135, ca_X4_kept_136, ab_wp0, ab_wps, ab_stp, ab_g, ab_st, ab_k2, ab_cl, ab_pop, ab_sz, ab_2, ab_ret, ab_f4, ab_tg, ab_I, ab_II, ab_A, ab_Rf, ab_VR, ab_IR, ab_VIR, ab_1, ab_LL, ab_DD, ab_ob, ab_pr, ab_qr, ab_ln, ab_so, ab_vI, ab_vA, ab_vD, ab_vL, ab_v2, ab_c, ab_fit, ab_rv, ab_tsw, ab_lsw, ab_up_eq, Fin.isValue, ab_f0, ab_f1, ab_f2, ab_f3, List.getElem?_cons_zero, List.getElem?_cons_succ, List.set_cons_zero, List.set_cons_succ, List.length_cons, List.length_nil, List.size_toArray, List.head?_cons, List.tail_cons, Option.map_some, cond_true, cond_false, true_and, and_true, false_and, and_false, not_true_eq_false, not_false_eq_true, true_imp_iff, false_imp_iff, if_true, if_false, ite_true, ite_false, ↓reduceIte, Nat.reduceAdd, Nat.reduceEqDiff, Nat.reduceLeDiff, Nat.reduceLT, Nat.reduceBEq, Nat.reduceBNe, Int.reduceAdd, Int.reduceNeg, Int.reduceSub, Int.reduceLE, Int.reduceLT, Int.reduceToNat, Int.reduceEq, Int.reduceMul, Int.cast_ofNat_Int, Nat.zero_add, Nat.add_zero, Nat.le_refl, eq_self, ne_eq, reduceCtorEq, or_true, true_or, or_false, false_or, Bool.or_true, Bool.or_false, Bool.true_or, Bool.false_or, Nat.zero_le, Int.le_refl, Int.ofNat_zero, Int.ofNat_one, Bool.false_eq_true]
      exact nx
    have st0 : ∀ (q : Nat) (hi : AH) (gi : Int → Option Nat), hi q = some (.inr (.inr (3, 4, gi))) → h q = none → (∀ b, h b ≠ none → hi b = h b) → V 4 [some (.inr (.inl (some a)))] [.inr (.inl (some q))] hi 1 4 := by
      intro q hi gi w1 w2 w3
      have ha := (w3 a (nn _ _ c)).trans c
      have hb := (w3 b0 (nn _ _ c0)).trans c0
      refine hV (fun p => p == 13) 80 _ _ _ _ _ _ ?_
      simp only [ha, hb, Tr_clone, ae_aload_n, ae_dup, ae_getfield, ae_iconst, ae_invokevirtual, dX4_kept_4, dX4_kept_5, dX4_kept_6, dX4_kept_7, dX4_kept_10, tbX4_g9, ca_X4_kept_136, ab_wp0, ab_wps, ab_stp, ab_g, ab_st, ab_k2, ab_cl, ab_pop, ab_sz, ab_2, ab_ret, ab_f4, ab_tg, ab_I, ab_II, ab_A, ab_Rf, ab_VR, ab_IR, ab_VIR, ab_1, ab_LL, ab_DD, ab_ob, ab_pr, ab_qr, ab_ln, ab_so, ab_vI, ab_vA, ab_vD, ab_vL, ab_v2, ab_c, ab_fit, ab_rv, ab_tsw, ab_lsw, ab_up_eq, Fin.isValue, ab_f0, ab_f1, ab_f2, ab_f3, List.getElem?_cons_zero, List.getElem?_cons_succ, List.set_cons_zero, List.set_cons_succ, List.length_cons, List.length_nil, List.size_toArray, List.head?_cons, List.tail_cons, Option.map_some, cond_true, cond_false, true_and, and_true, false_and, and_false, not_true_eq_false, not_false_eq_true, true_imp_iff, false_imp_iff, if_true, if_false, ite_true, ite_false, ↓reduceIte, Nat.reduceAdd, Nat.reduceEqDiff, Nat.reduceLeDiff, Nat.reduceLT, Nat.reduceBEq, Nat.reduceBNe, Int.reduceAdd, Int.reduceNeg, Int.reduceSub, Int.reduceLE, Int.reduceLT, Int.reduceToNat, Int.reduceEq, Int.reduceMul, Int.cast_ofNat_Int, Nat.zero_add, Nat.add_zero, Nat.le_refl, eq_self, ne_eq, reduceCtorEq, or_true, true_or, or_false, false_or, Bool.or_true, Bool.or_false, Bool.true_or, Bool.false_or, Nat.zero_le, Int.le_refl, Int.ofNat_zero, Int.ofNat_one, Bool.false_eq_true]
      intro s fr
      have e1 := ab_none_ne w1 fr
      have hs0 : h s = none := by
        cases hx : h s with
        | none => rfl
        | some cc => rw [w3 s (nn _ _ hx), hx] at fr; cases fr
      have nx := st1 q (ab_up (ab_up hi s (.inr (.inl (0, 1200, f0)))) q (.inr (.inr (3, 4, ab_uf gi 0 (some s))))) (ab_uf gi 0 (some s)) s (ab_up_eq _ _ _) w2 (fun b hb => by rw [ab_up_ap, if_neg (fun z => hb (by rw [z]; exact w2)), ab_up_ap, if_neg (fun z => hb (by rw [z]; exact hs0))]; exact w3 b hb) (by simp only [ab_uf, if_true]) (by simp only [ab_up_ap, e1, if_false, if_true]) hs0
      refine hV (fun p => p == 17) 80 _ _ _ _ _ _ ?_
      simp only [ab_up_ap, e1, w1, ae_aastore, ae_checkcast, dX4_kept_13, dX4_kept_16, tbX4_a135, ca_X4_kept_136, ab_wp0, ab_wps, ab_stp, ab_g, ab_st, ab_k2, ab_cl, ab_pop, ab_sz, ab_2, ab_ret, ab_f4, ab_tg, ab_I, ab_II, ab_A, ab_Rf, ab_VR, ab_IR, ab_VIR, ab_1, ab_LL, ab_DD, ab_ob, ab_pr, ab_qr, ab_ln, ab_so, ab_vI, ab_vA, ab_vD, ab_vL, ab_v2, ab_c, ab_fit, ab_rv, ab_tsw, ab_lsw, ab_up_eq, Fin.isValue, ab_f0, ab_f1, ab_f2, ab_f3, List.getElem?_cons_zero, List.getElem?_cons_succ, List.set_cons_zero, List.set_cons_succ, List.length_cons, List.length_nil, List.size_toArray, List.head?_cons, List.tail_cons, Option.map_some, cond_true, cond_false, true_and, and_true, false_and, and_false, not_true_eq_false, not_false_eq_true, true_imp_iff, false_imp_iff, if_true, if_false, ite_true, ite_false, ↓reduceIte, Nat.reduceAdd, Nat.reduceEqDiff, Nat.reduceLeDiff, Nat.reduceLT, Nat.reduceBEq, Nat.reduceBNe, Int.reduceAdd, Int.reduceNeg, Int.reduceSub, Int.reduceLE, Int.reduceLT, Int.reduceToNat, Int.reduceEq, Int.reduceMul, Int.cast_ofNat_Int, Nat.zero_add, Nat.add_zero, Nat.le_refl, eq_self, ne_eq, reduceCtorEq, or_true, true_or, or_false, false_or, Bool.or_true, Bool.or_false, Bool.true_or, Bool.false_or, Nat.zero_le, Int.le_refl, Int.ofNat_zero, Int.ofNat_one, Bool.false_eq_true]
      exact nx
    refine hV (fun p => p == 4) 80 _ _ _ _ _ _ ?_
    simp only [ae_anewarray, ae_iconst, dX4_kept_0, dX4_kept_1, tbX4_a135, ca_X4_kept_136, ab_wp0, ab_wps, ab_stp, ab_g, ab_st, ab_k2, ab_cl, ab_pop, ab_sz, ab_2, ab_ret, ab_f4, ab_tg, ab_I, ab_II, ab_A, ab_Rf, ab_VR, ab_IR, ab_VIR, ab_1, ab_LL, ab_DD, ab_ob, ab_pr, ab_qr, ab_ln, ab_so, ab_vI, ab_vA, ab_vD, ab_vL, ab_v2, ab_c, ab_fit, ab_rv, ab_tsw, ab_lsw, ab_up_eq, Fin.isValue, ab_f0, ab_f1, ab_f2, ab_f3, List.getElem?_cons_zero, List.getElem?_cons_succ, List.set_cons_zero, List.set_cons_succ, List.length_cons, List.length_nil, List.size_toArray, List.head?_cons, List.tail_cons, Option.map_some, cond_true, cond_false, true_and, and_true, false_and, and_false, not_true_eq_false, not_false_eq_true, true_imp_iff, false_imp_iff, if_true, if_false, ite_true, ite_false, ↓reduceIte, Nat.reduceAdd, Nat.reduceEqDiff, Nat.reduceLeDiff, Nat.reduceLT, Nat.reduceBEq, Nat.reduceBNe, Int.reduceAdd, Int.reduceNeg, Int.reduceSub, Int.reduceLE, Int.reduceLT, Int.reduceToNat, Int.reduceEq, Int.reduceMul, Int.cast_ofNat_Int, Nat.zero_add, Nat.add_zero, Nat.le_refl, eq_self, ne_eq, reduceCtorEq, or_true, true_or, or_false, false_or, Bool.or_true, Bool.or_false, Bool.true_or, Bool.false_or, Nat.zero_le, Int.le_refl, Int.ofNat_zero, Int.ofNat_one, Bool.false_eq_true]
    refine ⟨lw3, fun q fr _ => ?_⟩
    exact st0 q (ab_up h q (.inr (.inr (3, 4, fun _ => none)))) _ (ab_up_eq _ _ _) fr (fun b hb => by rw [ab_up_ap, if_neg (fun z => hb (by rw [z]; exact fr))])
  · exact hT.elim
set_option maxRecDepth 100000 in
theorem con_X4_kept (l : Launch) (D : va_G) (ty : Nat → ClassId) (base : Nat) : ab_Con l D vwCl ty lw_ts base lw_wd yX4_kept cX4_kept 1 (some (.array (.array .int))) 1 60 5 4804 Tr_X4_kept :=
  ab_con_of (own := RX4) (rt := 3) (tb := tbX4) (ini := false) (ca := ca_X4_kept) (by decide +kernel) rfl (fun h => by cases h) rfl lw_wd_ok wtbX4 lw_ar cm_X4_kept
    (fun p e R s m args below meth c K hcx => by
      obtain ⟨hx, hb, hml, hown, hF, rfl⟩ := hcx
      exact ab_lk_all (ab_all_c (ab_tc_clone hx hb hml hown lw_wd_ok hF ⟨rfl, rfl⟩ (lw_wi (by decide +kernel) (by decide +kernel)) (lw_wi (by decide +kernel) (by decide +kernel)) (lw_wi (by decide +kernel) (by decide +kernel)) (lw_wi (by decide +kernel) (by decide +kernel)) (lw_wi (by decide +kernel) (by decide +kernel)) (lw_wi (by decide +kernel) (by decide +kernel)) (by decide) (by decide)) (ab_all_n)))
    (by intro as h K ht; unfold Tr_X4_kept at ht; split at ht <;> first | exact ht.elim | exact Nat.le_of_ble_eq_true rfl) (sem_X4_kept base)
