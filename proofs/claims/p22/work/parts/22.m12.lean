/-! ===== Roof: copying ===== -/
def cpA (k : Int) (f g : Int → Int) : Int → Int := fun i => if 0 ≤ i ∧ i < k then g i else f i
theorem cpA_0 (f g : Int → Int) : cpA 0 f g = f := by
  funext i
  unfold cpA
  rw [if_neg (by omega)]
theorem cpA_s (f g : Int → Int) (x : Int) (hx : 0 ≤ x) : ab_uf (cpA x f g) x (g x) = cpA (x + 1) f g := by
  funext i
  unfold ab_uf cpA
  by_cases h : i = x
  · rw [if_pos h, if_pos (by omega), h]
  · rw [if_neg h]
    by_cases h2 : 0 ≤ i ∧ i < x
    · rw [if_pos h2, if_pos (by omega)]
    · rw [if_neg h2, if_neg (by omega)]
theorem cpA_r {P : Int → Prop} {f g : Int → Int} (hf : ∀ i, P (f i)) (hg : ∀ i, P (g i)) (k : Int) : ∀ i, P (cpA k f g i) := by
  intro i
  unfold cpA
  split
  · exact hg i
  · exact hf i
def cpS (S O : RS) (x1 x2 : Int) : RS := (cpA x1 S.num O.num, cpA x1 S.rot O.rot, cpA x2 S.row O.row, cpA x2 S.frm O.frm, cpA x2 S.wid O.wid, cpA x2 S.nai O.nai, cpA x2 S.crk O.crk, cpA x2 S.onr O.onr, S.goe, O.day, O.laid, O.there, O.blown)
def cpF (S O : RS) : RS := cpS S O 96 200
theorem cpS_r {S O : RS} (h : RB S) (g : RB O) (x1 x2 : Int) : RB (cpS S O x1 x2) := by
  refine ⟨cpA_r (P := fun q => -1 ≤ q ∧ q < 200) h.num_r g.num_r x1, cpA_r (P := fun q => 0 ≤ q ∧ q ≤ 9) h.rot_r g.rot_r x1, cpA_r (P := fun q => 0 ≤ q ∧ q ≤ 7) h.row_r g.row_r x2, ?_, cpA_r (P := fun q => 0 ≤ q ∧ q ≤ 3) h.nai_r g.nai_r x2, cpA_r (P := fun q => q = 0 ∨ q = 1) h.crk_r g.crk_r x2, cpA_r (P := fun q => q = 0 ∨ q = 1) h.onr_r g.onr_r x2, h.goe_r, g.day_r, g.laid_r⟩
  intro i
  show 0 ≤ cpA x2 S.frm O.frm i ∧ 0 ≤ cpA x2 S.wid O.wid i ∧ cpA x2 S.wid O.wid i ≤ 4 ∧ cpA x2 S.frm O.frm i + cpA x2 S.wid O.wid i ≤ 12
  unfold cpA
  split
  · exact g.frm_r i
  · exact h.frm_r i
noncomputable def Tr_X1_copyFrom : ATr := fun as h K => match as with
  | [.inr (.inl (some a)), .inr (.inl (some b))] => ab_so (ab_roof h a) fun P => ab_so (ab_roof h b) fun Q => (∀ q, q ∈ a :: P.1 → q ∈ b :: Q.1 → False) ∧ ∀ h', ab_roof h' a = some (P.1, cpF P.2 Q.2) → ab_fr h h' (a :: P.1) → K (none) h'
  | _ => False
theorem mo_X1_copyFrom : ab_mo Tr_X1_copyFrom := by
  intro as h K K' hk ht
  unfold Tr_X1_copyFrom at ht ⊢
  split at ht
  · exact ab_so_mo (fun P q => ab_so_mo (fun Q q2 => ⟨q2.1, fun h' e1 e2 => hk _ _ (q2.2 h' e1 e2)⟩) q) ht
  · exact ht.elim
def ca_X1_copyFrom : Nat → Option ACS := ab_lk []
theorem cm_X1_copyFrom : ∀ i q, ca_X1_copyFrom i = some q → ab_moq i q := ab_lk_all (ab_all_n)
set_option maxRecDepth 100000 in
set_option maxHeartbeats 4000000 in
theorem sem_X1_copyFrom (base : Nat) : ab_Sem tbX1 lw_ts base cX1_copyFrom ca_X1_copyFrom 0 3 0 0 (fun as => ab_en as 3) Tr_X1_copyFrom := by
  intro as h K hT V hV
  unfold Tr_X1_copyFrom at hT
  split at hT
  · rename_i a b
    obtain ⟨⟨ns, S⟩, hP, hT2⟩ := ab_so_el hT
    obtain ⟨⟨ms, O⟩, hQ, hd, hK⟩ := ab_so_el hT2
    dsimp only at hK hd
    obtain ⟨hB, hC⟩ := roof_el hP
    obtain ⟨hBO, p0, p1, p2, p3, p4, p5, p6, p7, p8, rfl, ndO, G, G0, G1, G2, G3, G4, G5, G6, G7, G8⟩ := roof_el hQ
    obtain ⟨n0, n1, n2, n3, n4, n5, n6, n7, n8, rfl, nd, c, c0, c1, c2, c3, c4, c5, c6, c7, c8⟩ := id hC
    have hd2 : ∀ q ∈ [b, p0, p1, p2, p3, p4, p5, p6, p7, p8], ∀ r ∈ [a, n0, n1, n2, n3, n4, n5, n6, n7, n8], ¬ q = r := fun q hq r hr e => hd r hr (e ▸ hq)
    have hd : ∀ q, q ∈ [a, n0, n1, n2, n3, n4, n5, n6, n7, n8] → q ∈ [b, p0, p1, p2, p3, p4, p5, p6, p7, p8] → False := hd
    have hd : ∀ q, q ∈ [a, n0, n1, n2, n3, n4, n5, n6, n7, n8] → q ∈ [b, p0, p1, p2, p3, p4, p5, p6, p7, p8] → False := hd
    simp only [List.forall_mem_cons, List.not_mem_nil, false_imp_iff, implies_true, and_true] at hd2
    show V 0 [some (.inr (.inl (some a))), some (.inr (.inl (some b))), none] [] h 0 0
    have second : ∀ (n : Nat) (x : Int) (h1 : AH), x + n = 200 → 0 ≤ x → roofCells h1 a [n0, n1, n2, n3, n4, n5, n6, n7, n8] (cpS S O 96 x) → ab_fr h h1 (a :: [n0, n1, n2, n3, n4, n5, n6, n7, n8]) → V 72 [some (.inr (.inl (some a))), some (.inr (.inl (some b))), some (.inl x)] [] h1 0 0 := by
      intro n
      induction n with
      | zero =>
        intro x h1 hx h0 hC2 fr
        have he : x = 200 := by omega
        subst he
        have hk3 := hK h1 (roof_of ⟨cpS_r hB hBO _ _, hC2⟩) fr
        refine hV (fun p => p == 72) 80 _ _ _ _ _ _ ?_
        simp only [bI_in, bI_0, bI_1, bI_t, bI_f, bI_01, ae_aload_n, ae_baload, ae_bastore, ae_getfield, ae_goto, ae_iaload, ae_iastore, ae_if_icmp, ae_iinc, ae_iload_n, ae_return_, ae_sipush, dX1_copyFrom_72, dX1_copyFrom_73, dX1_copyFrom_76, dX1_copyFrom_79, dX1_copyFrom_80, dX1_copyFrom_83, dX1_copyFrom_84, dX1_copyFrom_85, dX1_copyFrom_88, dX1_copyFrom_89, dX1_copyFrom_90, dX1_copyFrom_91, dX1_copyFrom_92, dX1_copyFrom_95, dX1_copyFrom_96, dX1_copyFrom_97, dX1_copyFrom_100, dX1_copyFrom_101, dX1_copyFrom_102, dX1_copyFrom_103, dX1_copyFrom_104, dX1_copyFrom_107, dX1_copyFrom_108, dX1_copyFrom_109, dX1_copyFrom_112, dX1_copyFrom_113, dX1_copyFrom_114, dX1_copyFrom_115, dX1_copyFrom_116, dX1_copyFrom_119, dX1_copyFrom_120, dX1_copyFrom_121, dX1_copyFrom_124, dX1_copyFrom_125, dX1_copyFrom_126, dX1_copyFrom_127, dX1_copyFrom_128, dX1_copyFrom_131, dX1_copyFrom_132, dX1_copyFrom_133, dX1_copyFrom_136, dX1_copyFrom_137, dX1_copyFrom_138, dX1_copyFrom_139, dX1_copyFrom_140, dX1_copyFrom_143, dX1_copyFrom_144, dX1_copyFrom_145, dX1_copyFrom_148, dX1_copyFrom_149, dX1_copyFrom_150, dX1_copyFrom_151, dX1_copyFrom_154, dX1_copyFrom_157, tbX1_g18, tbX1_g21, tbX1_g24, tbX1_g27, tbX1_g30, tbX1_g34, ab_wp0, ab_wps, ab_stp, ab_g, ab_st, ab_k2, ab_cl, ab_pop, ab_sz, ab_2, ab_ret, ab_f4, ab_tg, ab_I, ab_II, ab_A, ab_Rf, ab_VR, ab_IR, ab_VIR, ab_1, ab_LL, ab_DD, ab_ob, ab_pr, ab_qr, ab_ln, ab_so, ab_vI, ab_vA, ab_vD, ab_vL, ab_v2, ab_c, ab_fit, ab_rv, ab_tsw, ab_lsw, ab_up_eq, Fin.isValue, ab_f0, ab_f1, ab_f2, ab_f3, List.getElem?_cons_zero, List.getElem?_cons_succ, List.set_cons_zero, List.set_cons_succ, List.length_cons, List.length_nil, List.size_toArray, List.head?_cons, List.tail_cons, Option.map_some, cond_true, cond_false, true_and, and_true, false_and, and_false, not_true_eq_false, not_false_eq_true, true_imp_iff, false_imp_iff, if_true, if_false, ite_true, ite_false, ↓reduceIte, Nat.reduceAdd, Nat.reduceEqDiff, Nat.reduceLeDiff, Nat.reduceLT, Nat.reduceBEq, Nat.reduceBNe, Int.reduceAdd, Int.reduceNeg, Int.reduceSub, Int.reduceLE, Int.reduceLT, Int.reduceToNat, Int.reduceEq, Int.reduceMul, Int.cast_ofNat_Int, Nat.zero_add, Nat.add_zero, Nat.le_refl, eq_self, ne_eq, reduceCtorEq, or_true, true_or, or_false, false_or, Bool.or_true, Bool.or_false, Bool.true_or, Bool.false_or, Nat.zero_le, Int.le_refl, Int.ofNat_zero, Int.ofNat_one, Bool.false_eq_true]
        simp only [ab_in]
        (repeat' (first | intro _ | refine And.intro ?_ ?_)) <;> (first | exact hk3 | contradiction | omega | (exfalso; omega))
      | succ n ih =>
        intro x h1 hx h0 hC2 fr
        have he : ¬ 200 ≤ x := by omega
        have hC3 := rc_onr (rc_crk (rc_nai (rc_wid (rc_frm (rc_row hC2 (cpA (x + 1) S.row O.row)) (cpA (x + 1) S.frm O.frm)) (cpA (x + 1) S.wid O.wid)) (cpA (x + 1) S.nai O.nai)) (cpA (x + 1) S.crk O.crk)) (cpA (x + 1) S.onr O.onr)
        have ih1 := ih (x + 1) _ (by omega) (by omega) hC3 ((((((fr.up (by simp)).up (by simp)).up (by simp)).up (by simp)).up (by simp)).up (by simp))
        rw [← cpA_s S.row O.row x h0, ← cpA_s S.frm O.frm x h0, ← cpA_s S.wid O.wid x h0, ← cpA_s S.nai O.nai x h0, ← cpA_s S.crk O.crk x h0, ← cpA_s S.onr O.onr x h0] at ih1
        have g : h1 b = some (.inl (1, [.inr (.inl (some p0)), .inr (.inl (some p1)), .inr (.inl (some p2)), .inr (.inl (some p3)), .inr (.inl (some p4)), .inr (.inl (some p5)), .inr (.inl (some p6)), .inr (.inl (some p7)), .inr (.inl (some p8)), .inl (O.day), .inl (O.laid), .inl (O.there), .inl (O.blown)])) := (fr b (by intro q; exact hd b q (by simp))).trans G
        have g0 : h1 p0 = some (.inr (.inl (0, 96, O.num))) := (fr p0 (by intro q; exact hd p0 q (by simp))).trans G0
        have g1 : h1 p1 = some (.inr (.inl (0, 96, O.rot))) := (fr p1 (by intro q; exact hd p1 q (by simp))).trans G1
        have g2 : h1 p2 = some (.inr (.inl (0, 200, O.row))) := (fr p2 (by intro q; exact hd p2 q (by simp))).trans G2
        have g3 : h1 p3 = some (.inr (.inl (0, 200, O.frm))) := (fr p3 (by intro q; exact hd p3 q (by simp))).trans G3
        have g4 : h1 p4 = some (.inr (.inl (0, 200, O.wid))) := (fr p4 (by intro q; exact hd p4 q (by simp))).trans G4
        have g5 : h1 p5 = some (.inr (.inl (0, 200, O.nai))) := (fr p5 (by intro q; exact hd p5 q (by simp))).trans G5
        have g6 : h1 p6 = some (.inr (.inl (1, 200, O.crk))) := (fr p6 (by intro q; exact hd p6 q (by simp))).trans G6
        have g7 : h1 p7 = some (.inr (.inl (1, 200, O.onr))) := (fr p7 (by intro q; exact hd p7 q (by simp))).trans G7
        have g8 : h1 p8 = some (.inr (.inl (1, 200, O.goe))) := (fr p8 (by intro q; exact hd p8 q (by simp))).trans G8
        obtain ⟨m0, m1, m2, m3, m4, m5, m6, m7, m8, em, nd2, (d : h1 a = some (.inl (1, [.inr (.inl (some m0)), .inr (.inl (some m1)), .inr (.inl (some m2)), .inr (.inl (some m3)), .inr (.inl (some m4)), .inr (.inl (some m5)), .inr (.inl (some m6)), .inr (.inl (some m7)), .inr (.inl (some m8)), .inl (O.day), .inl (O.laid), .inl (O.there), .inl (O.blown)]))), (d0 : h1 m0 = some (.inr (.inl (0, 96, cpA 96 S.num O.num)))), (d1 : h1 m1 = some (.inr (.inl (0, 96, cpA 96 S.rot O.rot)))), (d2 : h1 m2 = some (.inr (.inl (0, 200, cpA x S.row O.row)))), (d3 : h1 m3 = some (.inr (.inl (0, 200, cpA x S.frm O.frm)))), (d4 : h1 m4 = some (.inr (.inl (0, 200, cpA x S.wid O.wid)))), (d5 : h1 m5 = some (.inr (.inl (0, 200, cpA x S.nai O.nai)))), (d6 : h1 m6 = some (.inr (.inl (1, 200, cpA x S.crk O.crk)))), (d7 : h1 m7 = some (.inr (.inl (1, 200, cpA x S.onr O.onr)))), (d8 : h1 m8 = some (.inr (.inl (1, 200, S.goe))))⟩ := id hC2
        simp only [List.cons.injEq, and_true] at em
        obtain ⟨rfl, rfl, rfl, rfl, rfl, rfl, rfl, rfl, rfl⟩ := em
        have k6 := hBO.crk_r x
        have k7 := hBO.onr_r x
        refine hV (fun p => p == 72) 80 _ _ _ _ _ _ ?_
        simp only [d, d2, d3, d4, d5, d6, d7, g, g2, g3, g4, g5, g6, g7, he, ab_up_ap, nd10 nd, hd2, bI_in, bI_0, bI_1, bI_t, bI_f, bI_01, ae_aload_n, ae_baload, ae_bastore, ae_getfield, ae_goto, ae_iaload, ae_iastore, ae_if_icmp, ae_iinc, ae_iload_n, ae_return_, ae_sipush, dX1_copyFrom_72, dX1_copyFrom_73, dX1_copyFrom_76, dX1_copyFrom_79, dX1_copyFrom_80, dX1_copyFrom_83, dX1_copyFrom_84, dX1_copyFrom_85, dX1_copyFrom_88, dX1_copyFrom_89, dX1_copyFrom_90, dX1_copyFrom_91, dX1_copyFrom_92, dX1_copyFrom_95, dX1_copyFrom_96, dX1_copyFrom_97, dX1_copyFrom_100, dX1_copyFrom_101, dX1_copyFrom_102, dX1_copyFrom_103, dX1_copyFrom_104, dX1_copyFrom_107, dX1_copyFrom_108, dX1_copyFrom_109, dX1_copyFrom_112, dX1_copyFrom_113, dX1_copyFrom_114, dX1_copyFrom_115, dX1_copyFrom_116, dX1_copyFrom_119, dX1_copyFrom_120, dX1_copyFrom_121, dX1_copyFrom_124, dX1_copyFrom_125, dX1_copyFrom_126, dX1_copyFrom_127, dX1_copyFrom_128, dX1_copyFrom_131, dX1_copyFrom_132, dX1_copyFrom_133, dX1_copyFrom_136, dX1_copyFrom_137, dX1_copyFrom_138, dX1_copyFrom_139, dX1_copyFrom_140, dX1_copyFrom_143, dX1_copyFrom_144, dX1_copyFrom_145, dX1_copyFrom_148, dX1_copyFrom_149, dX1_copyFrom_150, dX1_copyFrom_151, dX1_copyFrom_154, dX1_copyFrom_157, tbX1_g18, tbX1_g21, tbX1_g24, tbX1_g27, tbX1_g30, tbX1_g34, ab_wp0, ab_wps, ab_stp, ab_g, ab_st, ab_k2, ab_cl, ab_pop, ab_sz, ab_2, ab_ret, ab_f4, ab_tg, ab_I, ab_II, ab_A, ab_Rf, ab_VR, ab_IR, ab_VIR, ab_1, ab_LL, ab_DD, ab_ob, ab_pr, ab_qr, ab_ln, ab_so, ab_vI, ab_vA, ab_vD, ab_vL, ab_v2, ab_c, ab_fit, ab_rv, ab_tsw, ab_lsw, ab_up_eq, Fin.isValue, ab_f0, ab_f1, ab_f2, ab_f3, List.getElem?_cons_zero, List.getElem?_cons_succ, List.set_cons_zero, List.set_cons_succ, List.length_cons, List.length_nil, List.size_toArray, List.head?_cons, List.tail_cons, Option.map_some, cond_true, cond_false, true_and, and_true, false_and, and_false, not_true_eq_false, not_false_eq_true, true_imp_iff, false_imp_iff, if_true, if_false, ite_true, ite_false, ↓reduceIte, Nat.reduceAdd, Nat.reduceEqDiff, Nat.reduceLeDiff, Nat.reduceLT, Nat.reduceBEq, Nat.reduceBNe, Int.reduceAdd, Int.reduceNeg, Int.reduceSub, Int.reduceLE, Int.reduceLT, Int.reduceToNat, Int.reduceEq, Int.reduceMul, Int.cast_ofNat_Int, Nat.zero_add, Nat.add_zero, Nat.le_refl, eq_self, ne_eq, reduceCtorEq, or_true, true_or, or_false, false_or, Bool.or_true, Bool.or_false, Bool.true_or, Bool.false_or, Nat.zero_le, Int.le_refl, Int.ofNat_zero, Int.ofNat_one, Bool.false_eq_true]
        simp only [ab_in]
        (repeat' (first | intro _ | refine And.intro ?_ ?_)) <;> (first | exact ih1 | contradiction | omega | (exfalso; omega))
    have first9 : ∀ (n : Nat) (x : Int) (h1 : AH), x + n = 96 → 0 ≤ x → roofCells h1 a [n0, n1, n2, n3, n4, n5, n6, n7, n8] (cpS S O x 0) → ab_fr h h1 (a :: [n0, n1, n2, n3, n4, n5, n6, n7, n8]) → V 34 [some (.inr (.inl (some a))), some (.inr (.inl (some b))), some (.inl x)] [] h1 0 0 := by
      intro n
      induction n with
      | zero =>
        intro x h1 hx h0 hC2 fr
        have he : x = 96 := by omega
        subst he
        have l1 := second 200 0 h1 (by omega) (by omega) hC2 fr
        refine hV (fun p => bif p == 34 then true else p == 72) 80 _ _ _ _ _ _ ?_
        simp only [bI_in, bI_0, bI_1, bI_t, bI_f, bI_01, ae_aload_n, ae_bipush, ae_getfield, ae_goto, ae_iaload, ae_iastore, ae_iconst, ae_if_icmp, ae_iinc, ae_iload_n, ae_istore_n, dX1_copyFrom_34, dX1_copyFrom_35, dX1_copyFrom_37, dX1_copyFrom_40, dX1_copyFrom_41, dX1_copyFrom_44, dX1_copyFrom_45, dX1_copyFrom_46, dX1_copyFrom_49, dX1_copyFrom_50, dX1_copyFrom_51, dX1_copyFrom_52, dX1_copyFrom_53, dX1_copyFrom_56, dX1_copyFrom_57, dX1_copyFrom_58, dX1_copyFrom_61, dX1_copyFrom_62, dX1_copyFrom_63, dX1_copyFrom_64, dX1_copyFrom_67, dX1_copyFrom_70, dX1_copyFrom_71, tbX1_g15, tbX1_g9, ab_wp0, ab_wps, ab_stp, ab_g, ab_st, ab_k2, ab_cl, ab_pop, ab_sz, ab_2, ab_ret, ab_f4, ab_tg, ab_I, ab_II, ab_A, ab_Rf, ab_VR, ab_IR, ab_VIR, ab_1, ab_LL, ab_DD, ab_ob, ab_pr, ab_qr, ab_ln, ab_so, ab_vI, ab_vA, ab_vD, ab_vL, ab_v2, ab_c, ab_fit, ab_rv, ab_tsw, ab_lsw, ab_up_eq, Fin.isValue, ab_f0, ab_f1, ab_f2, ab_f3, List.getElem?_cons_zero, List.getElem?_cons_succ, List.set_cons_zero, List.set_cons_succ, List.length_cons, List.length_nil, List.size_toArray, List.head?_cons, List.tail_cons, Option.map_some, cond_true, cond_false, true_and, and_true, false_and, and_false, not_true_eq_false, not_false_eq_true, true_imp_iff, false_imp_iff, if_true, if_false, ite_true, ite_false, ↓reduceIte, Nat.reduceAdd, Nat.reduceEqDiff, Nat.reduceLeDiff, Nat.reduceLT, Nat.reduceBEq, Nat.reduceBNe, Int.reduceAdd, Int.reduceNeg, Int.reduceSub, Int.reduceLE, Int.reduceLT, Int.reduceToNat, Int.reduceEq, Int.reduceMul, Int.cast_ofNat_Int, Nat.zero_add, Nat.add_zero, Nat.le_refl, eq_self, ne_eq, reduceCtorEq, or_true, true_or, or_false, false_or, Bool.or_true, Bool.or_false, Bool.true_or, Bool.false_or, Nat.zero_le, Int.le_refl, Int.ofNat_zero, Int.ofNat_one, Bool.false_eq_true]
        simp only [ab_in]
        (repeat' (first | intro _ | refine And.intro ?_ ?_)) <;> (first | exact l1 | contradiction | omega | (exfalso; omega))
      | succ n ih =>
        intro x h1 hx h0 hC2 fr
        have he : ¬ 96 ≤ x := by omega
        have hC3 := rc_rot (rc_num hC2 (cpA (x + 1) S.num O.num)) (cpA (x + 1) S.rot O.rot)
        have ih1 := ih (x + 1) _ (by omega) (by omega) hC3 ((fr.up (by simp)).up (by simp))
        rw [← cpA_s S.num O.num x h0, ← cpA_s S.rot O.rot x h0] at ih1
        have g : h1 b = some (.inl (1, [.inr (.inl (some p0)), .inr (.inl (some p1)), .inr (.inl (some p2)), .inr (.inl (some p3)), .inr (.inl (some p4)), .inr (.inl (some p5)), .inr (.inl (some p6)), .inr (.inl (some p7)), .inr (.inl (some p8)), .inl (O.day), .inl (O.laid), .inl (O.there), .inl (O.blown)])) := (fr b (by intro q; exact hd b q (by simp))).trans G
        have g0 : h1 p0 = some (.inr (.inl (0, 96, O.num))) := (fr p0 (by intro q; exact hd p0 q (by simp))).trans G0
        have g1 : h1 p1 = some (.inr (.inl (0, 96, O.rot))) := (fr p1 (by intro q; exact hd p1 q (by simp))).trans G1
        have g2 : h1 p2 = some (.inr (.inl (0, 200, O.row))) := (fr p2 (by intro q; exact hd p2 q (by simp))).trans G2
        have g3 : h1 p3 = some (.inr (.inl (0, 200, O.frm))) := (fr p3 (by intro q; exact hd p3 q (by simp))).trans G3
        have g4 : h1 p4 = some (.inr (.inl (0, 200, O.wid))) := (fr p4 (by intro q; exact hd p4 q (by simp))).trans G4
        have g5 : h1 p5 = some (.inr (.inl (0, 200, O.nai))) := (fr p5 (by intro q; exact hd p5 q (by simp))).trans G5
        have g6 : h1 p6 = some (.inr (.inl (1, 200, O.crk))) := (fr p6 (by intro q; exact hd p6 q (by simp))).trans G6
        have g7 : h1 p7 = some (.inr (.inl (1, 200, O.onr))) := (fr p7 (by intro q; exact hd p7 q (by simp))).trans G7
        have g8 : h1 p8 = some (.inr (.inl (1, 200, O.goe))) := (fr p8 (by intro q; exact hd p8 q (by simp))).trans G8
        obtain ⟨m0, m1, m2, m3, m4, m5, m6, m7, m8, em, nd2, (d : h1 a = some (.inl (1, [.inr (.inl (some m0)), .inr (.inl (some m1)), .inr (.inl (some m2)), .inr (.inl (some m3)), .inr (.inl (some m4)), .inr (.inl (some m5)), .inr (.inl (some m6)), .inr (.inl (some m7)), .inr (.inl (some m8)), .inl (O.day), .inl (O.laid), .inl (O.there), .inl (O.blown)]))), (d0 : h1 m0 = some (.inr (.inl (0, 96, cpA x S.num O.num)))), (d1 : h1 m1 = some (.inr (.inl (0, 96, cpA x S.rot O.rot)))), (d2 : h1 m2 = some (.inr (.inl (0, 200, cpA 0 S.row O.row)))), (d3 : h1 m3 = some (.inr (.inl (0, 200, cpA 0 S.frm O.frm)))), (d4 : h1 m4 = some (.inr (.inl (0, 200, cpA 0 S.wid O.wid)))), (d5 : h1 m5 = some (.inr (.inl (0, 200, cpA 0 S.nai O.nai)))), (d6 : h1 m6 = some (.inr (.inl (1, 200, cpA 0 S.crk O.crk)))), (d7 : h1 m7 = some (.inr (.inl (1, 200, cpA 0 S.onr O.onr)))), (d8 : h1 m8 = some (.inr (.inl (1, 200, S.goe))))⟩ := id hC2
        simp only [List.cons.injEq, and_true] at em
        obtain ⟨rfl, rfl, rfl, rfl, rfl, rfl, rfl, rfl, rfl⟩ := em
        refine hV (fun p => p == 34) 80 _ _ _ _ _ _ ?_
        simp only [d, d0, d1, g, g0, g1, he, ab_up_ap, nd10 nd, hd2, bI_in, bI_0, bI_1, bI_t, bI_f, bI_01, ae_aload_n, ae_bipush, ae_getfield, ae_goto, ae_iaload, ae_iastore, ae_if_icmp, ae_iinc, ae_iload_n, dX1_copyFrom_34, dX1_copyFrom_35, dX1_copyFrom_37, dX1_copyFrom_40, dX1_copyFrom_41, dX1_copyFrom_44, dX1_copyFrom_45, dX1_copyFrom_46, dX1_copyFrom_49, dX1_copyFrom_50, dX1_copyFrom_51, dX1_copyFrom_52, dX1_copyFrom_53, dX1_copyFrom_56, dX1_copyFrom_57, dX1_copyFrom_58, dX1_copyFrom_61, dX1_copyFrom_62, dX1_copyFrom_63, dX1_copyFrom_64, dX1_copyFrom_67, tbX1_g15, tbX1_g9, ab_wp0, ab_wps, ab_stp, ab_g, ab_st, ab_k2, ab_cl, ab_pop, ab_sz, ab_2, ab_ret, ab_f4, ab_tg, ab_I, ab_II, ab_A, ab_Rf, ab_VR, ab_IR, ab_VIR, ab_1, ab_LL, ab_DD, ab_ob, ab_pr, ab_qr, ab_ln, ab_so, ab_vI, ab_vA, ab_vD, ab_vL, ab_v2, ab_c, ab_fit, ab_rv, ab_tsw, ab_lsw, ab_up_eq, Fin.isValue, ab_f0, ab_f1, ab_f2, ab_f3, List.getElem?_cons_zero, List.getElem?_cons_succ, List.set_cons_zero, List.set_cons_succ, List.length_cons, List.length_nil, List.size_toArray, List.head?_cons, List.tail_cons, Option.map_some, cond_true, cond_false, true_and, and_true, false_and, and_false, not_true_eq_false, not_false_eq_true, true_imp_iff, false_imp_iff, if_true, if_false, ite_true, ite_false, ↓reduceIte, Nat.reduceAdd, Nat.reduceEqDiff, Nat.reduceLeDiff, Nat.reduceLT, Nat.reduceBEq, Nat.reduceBNe, Int.reduceAdd, Int.reduceNeg, Int.reduceSub, Int.reduceLE, Int.reduceLT, Int.reduceToNat, Int.reduceEq, Int.reduceMul, Int.cast_ofNat_Int, Nat.zero_add, Nat.add_zero, Nat.le_refl, eq_self, ne_eq, reduceCtorEq, or_true, true_or, or_false, false_or, Bool.or_true, Bool.or_false, Bool.true_or, Bool.false_or, Nat.zero_le, Int.le_refl, Int.ofNat_zero, Int.ofNat_one, Bool.false_eq_true]
        simp only [ab_in]
        (repeat' (first | intro _ | refine And.intro ?_ ?_)) <;> (first | exact ih1 | contradiction | omega | (exfalso; omega))
    have hC4 := rc_blown (rc_there (rc_laid (rc_day hC O.day) O.laid) O.there) O.blown
    have l0 := first9 96 0 _ (by omega) (by omega) (by rw [cpS]; simp only [cpA_0]; exact hC4) ((((ab_fr.rf.up (by simp)).up (by simp)).up (by simp)).up (by simp))
    refine hV (fun p => p == 34) 80 _ _ _ _ _ _ ?_
    simp only [c, G, ab_up_ap, nd10 nd, hd2, bI_in, bI_0, bI_1, bI_t, bI_f, bI_01, ae_aload_n, ae_getfield, ae_iconst, ae_istore_n, ae_putfield, dX1_copyFrom_0, dX1_copyFrom_1, dX1_copyFrom_2, dX1_copyFrom_5, dX1_copyFrom_8, dX1_copyFrom_9, dX1_copyFrom_10, dX1_copyFrom_13, dX1_copyFrom_16, dX1_copyFrom_17, dX1_copyFrom_18, dX1_copyFrom_21, dX1_copyFrom_24, dX1_copyFrom_25, dX1_copyFrom_26, dX1_copyFrom_29, dX1_copyFrom_32, dX1_copyFrom_33, tbX1_g40, tbX1_g44, tbX1_g47, tbX1_g50, tbX1_p40, tbX1_p44, tbX1_p47, tbX1_p50, ab_wp0, ab_wps, ab_stp, ab_g, ab_st, ab_k2, ab_cl, ab_pop, ab_sz, ab_2, ab_ret, ab_f4, ab_tg, ab_I, ab_II, ab_A, ab_Rf, ab_VR, ab_IR, ab_VIR, ab_1, ab_LL, ab_DD, ab_ob, ab_pr, ab_qr, ab_ln, ab_so, ab_vI, ab_vA, ab_vD, ab_vL, ab_v2, ab_c, ab_fit, ab_rv, ab_tsw, ab_lsw, ab_up_eq, Fin.isValue, ab_f0, ab_f1, ab_f2, ab_f3, List.getElem?_cons_zero, List.getElem?_cons_succ, List.set_cons_zero, List.set_cons_succ, List.length_cons, List.length_nil, List.size_toArray, List.head?_cons, List.tail_cons, Option.map_some, cond_true, cond_false, true_and, and_true, false_and, and_false, not_true_eq_false, not_false_eq_true, true_imp_iff, false_imp_iff, if_true, if_false, ite_true, ite_false, ↓reduceIte, Nat.reduceAdd, Nat.reduceEqDiff, Nat.reduceLeDiff, Nat.reduceLT, Nat.reduceBEq, Nat.reduceBNe, Int.reduceAdd, Int.reduceNeg, Int.reduceSub, Int.reduceLE, Int.reduceLT, Int.reduceToNat, Int.reduceEq, Int.reduceMul, Int.cast_ofNat_Int, Nat.zero_add, Nat.add_zero, Nat.le_refl, eq_self, ne_eq, reduceCtorEq, or_true, true_or, or_false, false_or, Bool.or_true, Bool.or_false, Bool.true_or, Bool.false_or, Nat.zero_le, Int.le_refl, Int.ofNat_zero, Int.ofNat_one, Bool.false_eq_true]
    exact l0
  · exact hT.elim
set_option maxRecDepth 100000 in
theorem con_X1_copyFrom (l : Launch) (D : va_G) (ty : Nat → ClassId) (base : Nat) : ab_Con l D vwCl ty lw_ts base lw_wd yX1_copyFrom cX1_copyFrom 3 none 0 0 0 0 Tr_X1_copyFrom :=
  ab_con_of (own := RX1) (rt := 0) (tb := tbX1) (ini := false) (ca := ca_X1_copyFrom) (by decide +kernel) rfl (fun h => by cases h) rfl lw_wd_ok wtbX1 lw_ar cm_X1_copyFrom
    (fun p e R s m args below meth c K hcx => by
      obtain ⟨hx, hb, hml, hown, hF, rfl⟩ := hcx
      exact ab_lk_all (ab_all_n))
    (by intro as h K ht; unfold Tr_X1_copyFrom at ht; split at ht <;> first | exact ht.elim | exact Nat.le_of_ble_eq_true rfl) (sem_X1_copyFrom base)
