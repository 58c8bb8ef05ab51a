/-! ===== days going by: the class's text ===== -/
/-- what stands while days go by: the object's table and cover, a roof w -/
def goG (a b c n w : Nat) (q : Nat × Nat × Nat × Nat) (T : TS) (o : AC) (ws : List Nat) (h h1 : AH) (f : Int → Int) (S : RS) : Prop :=
  h1 a = some o ∧ ab_tab h1 b = some (q, T) ∧ ab_cov h1 c = some (n, f) ∧ ab_roof h1 w = some (ws, S) ∧ ab_fr h h1 ((w :: ws) ++ [c, n])
theorem goG_roof {a b c n w : Nat} {q : Nat × Nat × Nat × Nat} {T : TS} {fs : List AV} {ws : List Nat} {h h1 h2 : AH} {f : Int → Int} {S S2 : RS} (g : goG a b c n w q T (.inl (3, fs)) ws h h1 f S) (h2' : ab_roof h2 w = some (ws, S2)) (h3 : ab_fr h1 h2 (w :: ws)) : goG a b c n w q T (.inl (3, fs)) ws h h2 f S2 := by
  obtain ⟨d, d3, d2, d0, fr⟩ := g
  have k2 := cov_roof d2 d0
  dsimp only at k2
  have k3 := tab_roof d3 d0
  exact ⟨(h3 a (obj_roof d d0)).trans d, tab_fr d3 (fun x hx => h3 x (fun hr => k3 x hr hx)), cov_fr d2 (h3 c (fun hr => (k2 c (List.mem_cons.mp hr)).1 rfl)) (h3 n (fun hr => (k2 n (List.mem_cons.mp hr)).2 rfl)), h2', fr.tr (h3.sub (fun x hx => List.mem_append.mpr (Or.inl hx)))⟩
theorem goG_cov {a b c n w : Nat} {q : Nat × Nat × Nat × Nat} {T : TS} {fs : List AV} {ws : List Nat} {h h1 h2 : AH} {f f2 : Int → Int} {S : RS} (g : goG a b c n w q T (.inl (3, fs)) ws h h1 f S) (h2' : ab_cov h2 c = some (n, f2)) (h3 : ab_fr h1 h2 [c, n]) : goG a b c n w q T (.inl (3, fs)) ws h h2 f2 S := by
  obtain ⟨d, d3, d2, d0, fr⟩ := g
  have k0 := cov_roof d2 d0
  dsimp only at k0
  have k3 := tab_cov d3 d2
  have hn : ∀ x, ¬ x = c ∧ ¬ x = n → x ∉ [c, n] := fun x hx hm => by
    simp only [List.mem_cons, List.not_mem_nil, or_false] at hm
    exact hm.elim hx.1 hx.2
  exact ⟨(h3 a (obj_cov d d2)).trans d, tab_fr d3 (fun x hx => h3 x (fun hr => k3 x hr hx)), h2', roof_fr d0 (fun x hx => h3 x (hn x (k0 x hx))), fr.tr (h3.sub (fun x hx => List.mem_append.mpr (Or.inr hx)))⟩
theorem dayF_r {f : Int → Int} {d lo hi : Int} (h0 : lo ≤ 0 ∧ 0 ≤ hi) (h : ∀ i, lo ≤ f i ∧ f i ≤ hi) : lo ≤ dayF f d ∧ dayF f d ≤ hi := by
  unfold dayF
  cases isDayF d
  · exact h0
  · exact h d
theorem dayF_01 {f : Int → Int} {d : Int} (h : ∀ i, f i = 0 ∨ f i = 1) : dayF f d = 0 ∨ dayF f d = 1 := by
  unfold dayF
  cases isDayF d
  · exact Or.inl rfl
  · exact h d
noncomputable def Tr_X3_letGoBy : ATr := fun as h K => match as with
  | [.inr (.inl (some a)), .inr (.inl (some w)), .inl days] => ab_so (ab_sr h a) fun P => ab_so (ab_roof h w) fun Q => (0 ≤ days ∧ days ≤ 60 ∧ Q.2.day + days ≤ 2000000000) ∧ ∀ h', ab_roof h' w = some (Q.1, (goL P.2.2.2.2 days.toNat (P.2.2.2.1, Q.2)).2) → ab_cov h' P.1.2.2.1.1 = some (P.1.2.2.1.2, (goL P.2.2.2.2 days.toNat (P.2.2.2.1, Q.2)).1) → ab_fr h h' ((w :: Q.1) ++ [P.1.2.2.1.1, P.1.2.2.1.2]) → K none h'
  | _ => False
theorem mo_X3_letGoBy : ab_mo Tr_X3_letGoBy := by
  intro as h K K' hk ht
  unfold Tr_X3_letGoBy at ht ⊢
  split at ht
  · exact ab_so_mo (fun P q => ab_so_mo (fun Q q2 => ⟨q2.1, fun h' e1 e2 e3 => hk _ _ (q2.2 h' e1 e2 e3)⟩) q) ht
  · exact ht.elim
def ca_X3_letGoBy : Nat → Option ACS := ab_lk [(231, (2, 0, 2, 0, 0, Tr_J9_floorMod_7cf53)), (236, (0, 2, 2, 0, 0, Tr_X2_forceOf)), (225, (0, 2, 2, 0, 0, Tr_X2_isFromRight)), (172, (0, 1, 3, 0, 0, Tr_X1_blow)), (239, (0, 2, 2, 0, 0, Tr_X2_hailOf)), (242, (0, 1, 2, 0, 0, Tr_X1_crackBy)), (181, (0, 0, 2, 0, 0, Tr_X0_readFrom)), (245, (0, 2, 2, 0, 0, Tr_X2_rainOf)), (248, (0, 1, 3, 0, 0, Tr_X1_rotBy))]
theorem ca_X3_letGoBy_231 : ca_X3_letGoBy 231 = some (2, 0, 2, 0, 0, Tr_J9_floorMod_7cf53) := rfl
theorem ca_X3_letGoBy_236 : ca_X3_letGoBy 236 = some (0, 2, 2, 0, 0, Tr_X2_forceOf) := rfl
theorem ca_X3_letGoBy_225 : ca_X3_letGoBy 225 = some (0, 2, 2, 0, 0, Tr_X2_isFromRight) := rfl
theorem ca_X3_letGoBy_172 : ca_X3_letGoBy 172 = some (0, 1, 3, 0, 0, Tr_X1_blow) := rfl
theorem ca_X3_letGoBy_239 : ca_X3_letGoBy 239 = some (0, 2, 2, 0, 0, Tr_X2_hailOf) := rfl
theorem ca_X3_letGoBy_242 : ca_X3_letGoBy 242 = some (0, 1, 2, 0, 0, Tr_X1_crackBy) := rfl
theorem ca_X3_letGoBy_181 : ca_X3_letGoBy 181 = some (0, 0, 2, 0, 0, Tr_X0_readFrom) := rfl
theorem ca_X3_letGoBy_245 : ca_X3_letGoBy 245 = some (0, 2, 2, 0, 0, Tr_X2_rainOf) := rfl
theorem ca_X3_letGoBy_248 : ca_X3_letGoBy 248 = some (0, 1, 3, 0, 0, Tr_X1_rotBy) := rfl
theorem cm_X3_letGoBy : ∀ i q, ca_X3_letGoBy i = some q → ab_moq i q := ab_lk_all (ab_all_c mo_J9_floorMod_7cf53 (ab_all_c mo_X2_forceOf (ab_all_c mo_X2_isFromRight (ab_all_c mo_X1_blow (ab_all_c mo_X2_hailOf (ab_all_c mo_X1_crackBy (ab_all_c mo_X0_readFrom (ab_all_c mo_X2_rainOf (ab_all_c mo_X1_rotBy (ab_all_n))))))))))
set_option maxRecDepth 100000 in
set_option maxHeartbeats 4000000 in
theorem sem_X3_letGoBy (base : Nat) : ab_Sem tbX3 lw_ts base cX3_letGoBy ca_X3_letGoBy 0 5 0 0 (fun as => ab_en as 5) Tr_X3_letGoBy := by
  intro as h K hT V hV
  unfold Tr_X3_letGoBy at hT
  split at hT
  · rename_i a w days
    obtain ⟨⟨⟨⟨r, ns⟩, ⟨t, ms⟩, ⟨c, n⟩, b, q⟩, S0, O0, f0, T⟩, hP, hT2⟩ := ab_so_el hT
    obtain ⟨⟨ws, S⟩, hQ, hs, hK⟩ := ab_so_el hT2
    dsimp only at hK hs
    obtain ⟨D0, -, -, D2, D3, -⟩ := sr_el hP
    dsimp only at D0 D2 D3
    have hTB := (tab_el D3).1
    dsimp only at hTB
    show V 0 [some (.inr (.inl (some a))), some (.inr (.inl (some w))), some (.inl days), none, none] [] h 0 0
    have loop : ∀ (k : Nat) (i : Int) (h1 : AH) (f : Int → Int) (S1 : RS) (u : Option AV), (u = none ∨ ∃ v, u = some (.inl v)) → i + k = days → 0 ≤ i → S1.day + k ≤ 2000000000 → goG a b c n w q T (.inl (3, [.inr (.inl (some r)), .inr (.inl (some t)), .inr (.inl (some c)), .inr (.inl (some b))])) ws h h1 f S1 → goL T k (f, S1) = goL T days.toNat (f0, S) → V 2 [some (.inr (.inl (some a))), some (.inr (.inl (some w))), some (.inl days), some (.inl i), u] [] h1 0 0 := by
      intro k
      induction k with
      | zero =>
        intro i h1 f S1 u hu hi h0 hdy g hr
        have he : i = days := by omega
        subst he
        simp only [goL] at hr
        rw [← hr] at hK
        have hk3 := hK h1 g.2.2.2.1 g.2.2.1 g.2.2.2.2
        refine hV (fun p => p == 2) 80 _ _ _ _ _ _ ?_
        simp only [bI_in, bI_0, bI_1, bI_t, bI_f, bI_01, ae_aload_n, ae_bipush, ae_dup, ae_getfield, ae_goto, ae_iadd, ae_iconst, ae_if_icmp, ae_iinc, ae_iload, ae_iload_n, ae_invokestatic, ae_invokevirtual, ae_istore, ae_pop, ae_putfield, ae_return_, dX3_letGoBy_2, dX3_letGoBy_3, dX3_letGoBy_4, dX3_letGoBy_7, dX3_letGoBy_8, dX3_letGoBy_11, dX3_letGoBy_13, dX3_letGoBy_16, dX3_letGoBy_18, dX3_letGoBy_19, dX3_letGoBy_20, dX3_letGoBy_23, dX3_letGoBy_25, dX3_letGoBy_28, dX3_letGoBy_29, dX3_letGoBy_32, dX3_letGoBy_34, dX3_letGoBy_37, dX3_letGoBy_40, dX3_letGoBy_41, dX3_letGoBy_42, dX3_letGoBy_43, dX3_letGoBy_46, dX3_letGoBy_48, dX3_letGoBy_51, dX3_letGoBy_54, dX3_letGoBy_55, dX3_letGoBy_58, dX3_letGoBy_59, dX3_letGoBy_62, dX3_letGoBy_63, dX3_letGoBy_64, dX3_letGoBy_67, dX3_letGoBy_68, dX3_letGoBy_71, dX3_letGoBy_73, dX3_letGoBy_76, dX3_letGoBy_79, dX3_letGoBy_80, dX3_letGoBy_81, dX3_letGoBy_84, dX3_letGoBy_85, dX3_letGoBy_86, dX3_letGoBy_89, dX3_letGoBy_92, dX3_letGoBy_95, tbX3_g139, tbX3_g22, tbX3_g29, tbX3_p139, ca_X3_letGoBy_231, ca_X3_letGoBy_236, ca_X3_letGoBy_225, ca_X3_letGoBy_172, ca_X3_letGoBy_239, ca_X3_letGoBy_242, ca_X3_letGoBy_181, ca_X3_letGoBy_245, ca_X3_letGoBy_248, ab_wp0, ab_wps, ab_stp, ab_g, ab_st, ab_k2, ab_cl, ab_pop, ab_sz, ab_2, ab_ret, ab_f4, ab_tg, ab_I, ab_II, ab_A, ab_Rf, ab_VR, ab_IR, ab_VIR, ab_1, ab_LL, ab_DD, ab_ob, ab_pr, ab_qr, ab_ln, ab_so, ab_vI, ab_vA, ab_vD, ab_vL, ab_v2, ab_c, ab_fit, ab_rv, ab_tsw, ab_lsw, ab_up_eq, Fin.isValue, ab_f0, ab_f1, ab_f2, ab_f3, List.getElem?_cons_zero, List.getElem?_cons_succ, List.set_cons_zero, List.set_cons_succ, List.length_cons, List.length_nil, List.size_toArray, List.head?_cons, List.tail_cons, Option.map_some, cond_true, cond_false, true_and, and_true, false_and, and_false, not_true_eq_false, not_false_eq_true, true_imp_iff, false_imp_iff, if_true, if_false, ite_true, ite_false, ↓reduceIte, Nat.reduceAdd, Nat.reduceEqDiff, Nat.reduceLeDiff, Nat.reduceLT, Nat.reduceBEq, Nat.reduceBNe, Int.reduceAdd, Int.reduceNeg, Int.reduceSub, Int.reduceLE, Int.reduceLT, Int.reduceToNat, Int.reduceEq, Int.reduceMul, Int.cast_ofNat_Int, Nat.zero_add, Nat.add_zero, Nat.le_refl, eq_self, ne_eq, reduceCtorEq, or_true, true_or, or_false, false_or, Bool.or_true, Bool.or_false, Bool.true_or, Bool.false_or, Nat.zero_le, Int.le_refl, Int.ofNat_zero, Int.ofNat_one, Bool.false_eq_true]
        simp only [ab_in]
        (repeat' (first | intro _ | refine And.intro ?_ ?_)) <;> (first | exact hk3 | contradiction | omega | (exfalso; omega))
      | succ k ih =>
        intro i h1 f S1 u hu hi h0 hdy g hr
        have he : ¬ days ≤ i := by omega
        simp only [goL] at hr
        have hday := (roof_el g.2.2.2.1).1.day_r
        have rg1 := dayF_r (d := S1.day % 7) (by decide) hTB.1
        have rg2 := dayF_01 (d := S1.day % 7) hTB.2.1
        have rg3 := dayF_r (d := S1.day % 7) (by decide) hTB.2.2.1
        have rg4 := dayF_r (d := S1.day % 7) (by decide) hTB.2.2.2
        have hgA := goA_day T S1
        have hgB := goB_day T (f, S1)
        dsimp only at rg1 rg2 rg3 rg4 hgB
        have hm7 : 0 ≤ S1.day % 7 ∧ S1.day % 7 < 7 := by omega
        have a4 : ∀ h2, goG a b c n w q T (.inl (3, [.inr (.inl (some r)), .inr (.inl (some t)), .inr (.inl (some c)), .inr (.inl (some b))])) ws h h2 (rdL (goA T S1) f 96) (goB T (f, S1)) → V 79 [some (.inr (.inl (some a))), some (.inr (.inl (some w))), some (.inl days), some (.inl i), some (.inl (S1.day % 7))] [] h2 0 0 := by
          intro h2 g2
          obtain ⟨hB4, hC4⟩ := roof_el g2.2.2.2.1
          obtain ⟨m0, m1, m2, m3, m4, m5, m6, m7, m8, rfl, -, (k : h2 w = some (.inl (1, [.inr (.inl (some m0)), .inr (.inl (some m1)), .inr (.inl (some m2)), .inr (.inl (some m3)), .inr (.inl (some m4)), .inr (.inl (some m5)), .inr (.inl (some m6)), .inr (.inl (some m7)), .inr (.inl (some m8)), .inl (goB T (f, S1)).day, .inl (goB T (f, S1)).laid, .inl (goB T (f, S1)).there, .inl (goB T (f, S1)).blown]))), -⟩ := id hC4
          have hC5 := rc_day hC4 ((goB T (f, S1)).day + 1)
          have ih1 := ih (i + 1) _ (rdL (goA T S1) f 96) ((goB T (f, S1)).s_day ((goB T (f, S1)).day + 1)) (some (.inl (S1.day % 7))) (Or.inr ⟨_, rfl⟩) (by omega) (by omega) (by show (goB T (f, S1)).day + 1 + _ ≤ _; omega) (goG_roof g2 (roof_of ⟨hB4.s_day (by omega), hC5⟩) (ab_fr.rf.up (by simp))) hr
          refine hV (fun p => p == 2) 80 _ _ _ _ _ _ ?_
          simp only [k, ae_aload_n, ae_dup, ae_getfield, ae_goto, ae_iadd, ae_iconst, ae_iinc, ae_putfield, dX3_letGoBy_79, dX3_letGoBy_80, dX3_letGoBy_81, dX3_letGoBy_84, dX3_letGoBy_85, dX3_letGoBy_86, dX3_letGoBy_89, dX3_letGoBy_92, tbX3_g139, tbX3_p139, ca_X3_letGoBy_231, ca_X3_letGoBy_236, ca_X3_letGoBy_225, ca_X3_letGoBy_172, ca_X3_letGoBy_239, ca_X3_letGoBy_242, ca_X3_letGoBy_181, ca_X3_letGoBy_245, ca_X3_letGoBy_248, ab_wp0, ab_wps, ab_stp, ab_g, ab_st, ab_k2, ab_cl, ab_pop, ab_sz, ab_2, ab_ret, ab_f4, ab_tg, ab_I, ab_II, ab_A, ab_Rf, ab_VR, ab_IR, ab_VIR, ab_1, ab_LL, ab_DD, ab_ob, ab_pr, ab_qr, ab_ln, ab_so, ab_vI, ab_vA, ab_vD, ab_vL, ab_v2, ab_c, ab_fit, ab_rv, ab_tsw, ab_lsw, ab_up_eq, Fin.isValue, ab_f0, ab_f1, ab_f2, ab_f3, List.getElem?_cons_zero, List.getElem?_cons_succ, List.set_cons_zero, List.set_cons_succ, List.length_cons, List.length_nil, List.size_toArray, List.head?_cons, List.tail_cons, Option.map_some, cond_true, cond_false, true_and, and_true, false_and, and_false, not_true_eq_false, not_false_eq_true, true_imp_iff, false_imp_iff, if_true, if_false, ite_true, ite_false, ↓reduceIte, Nat.reduceAdd, Nat.reduceEqDiff, Nat.reduceLeDiff, Nat.reduceLT, Nat.reduceBEq, Nat.reduceBNe, Int.reduceAdd, Int.reduceNeg, Int.reduceSub, Int.reduceLE, Int.reduceLT, Int.reduceToNat, Int.reduceEq, Int.reduceMul, Int.cast_ofNat_Int, Nat.zero_add, Nat.add_zero, Nat.le_refl, eq_self, ne_eq, reduceCtorEq, or_true, true_or, or_false, false_or, Bool.or_true, Bool.or_false, Bool.true_or, Bool.false_or, Nat.zero_le, Int.le_refl, Int.ofNat_zero, Int.ofNat_one, Bool.false_eq_true]
          exact ih1
        have a3 : ∀ h2, goG a b c n w q T (.inl (3, [.inr (.inl (some r)), .inr (.inl (some t)), .inr (.inl (some c)), .inr (.inl (some b))])) ws h h2 (rdL (goA T S1) f 96) (goA T S1) → V 62 [some (.inr (.inl (some a))), some (.inr (.inl (some w))), some (.inl days), some (.inl i), some (.inl (S1.day % 7))] [] h2 0 0 := by
          intro h2 g2
          obtain ⟨d, d3, d2, d0, -⟩ := id g2
          obtain ⟨-, m0, m1, m2, m3, m4, m5, m6, m7, m8, -, -, e9, -⟩ := roof_el d0
          obtain ⟨-, -, e8, -⟩ := tab_el d3
          dsimp only at e8
          have a4' := fun h3 q1 q2 => a4 h3 (goG_roof g2 q1 q2)
          simp only [goB] at a4'
          refine hV (fun p => bif p == 2 then true else p == 79) 80 _ _ _ _ _ _ ?_
          simp only [d, d3, d2, d0, e9, e8, bI_in, bI_0, bI_1, bI_t, bI_f, bI_01, Tr_X2_rainOf, Tr_X1_rotBy, ae_aload_n, ae_getfield, ae_iload, ae_invokevirtual, dX3_letGoBy_62, dX3_letGoBy_63, dX3_letGoBy_64, dX3_letGoBy_67, dX3_letGoBy_68, dX3_letGoBy_71, dX3_letGoBy_73, dX3_letGoBy_76, tbX3_g22, tbX3_g29, ca_X3_letGoBy_231, ca_X3_letGoBy_236, ca_X3_letGoBy_225, ca_X3_letGoBy_172, ca_X3_letGoBy_239, ca_X3_letGoBy_242, ca_X3_letGoBy_181, ca_X3_letGoBy_245, ca_X3_letGoBy_248, ab_wp0, ab_wps, ab_stp, ab_g, ab_st, ab_k2, ab_cl, ab_pop, ab_sz, ab_2, ab_ret, ab_f4, ab_tg, ab_I, ab_II, ab_A, ab_Rf, ab_VR, ab_IR, ab_VIR, ab_1, ab_LL, ab_DD, ab_ob, ab_pr, ab_qr, ab_ln, ab_so, ab_vI, ab_vA, ab_vD, ab_vL, ab_v2, ab_c, ab_fit, ab_rv, ab_tsw, ab_lsw, ab_up_eq, Fin.isValue, ab_f0, ab_f1, ab_f2, ab_f3, List.getElem?_cons_zero, List.getElem?_cons_succ, List.set_cons_zero, List.set_cons_succ, List.length_cons, List.length_nil, List.size_toArray, List.head?_cons, List.tail_cons, Option.map_some, cond_true, cond_false, true_and, and_true, false_and, and_false, not_true_eq_false, not_false_eq_true, true_imp_iff, false_imp_iff, if_true, if_false, ite_true, ite_false, ↓reduceIte, Nat.reduceAdd, Nat.reduceEqDiff, Nat.reduceLeDiff, Nat.reduceLT, Nat.reduceBEq, Nat.reduceBNe, Int.reduceAdd, Int.reduceNeg, Int.reduceSub, Int.reduceLE, Int.reduceLT, Int.reduceToNat, Int.reduceEq, Int.reduceMul, Int.cast_ofNat_Int, Nat.zero_add, Nat.add_zero, Nat.le_refl, eq_self, ne_eq, reduceCtorEq, or_true, true_or, or_false, false_or, Bool.or_true, Bool.or_false, Bool.true_or, Bool.false_or, Nat.zero_le, Int.le_refl, Int.ofNat_zero, Int.ofNat_one, Bool.false_eq_true]
          simp only [ab_in]
          (repeat' (first | intro _ | refine And.intro ?_ ?_)) <;> (first | exact a4' _ (by assumption) (by assumption) | contradiction | omega | (exfalso; omega))
        have a2 : ∀ h2, goG a b c n w q T (.inl (3, [.inr (.inl (some r)), .inr (.inl (some t)), .inr (.inl (some c)), .inr (.inl (some b))])) ws h h2 f (goA T S1) → V 54 [some (.inr (.inl (some a))), some (.inr (.inl (some w))), some (.inl days), some (.inl i), some (.inl (S1.day % 7))] [] h2 0 0 := by
          intro h2 g2
          obtain ⟨d, d3, d2, d0, -⟩ := id g2
          obtain ⟨-, -, e8, -⟩ := cov_el d2
          dsimp only at e8
          refine hV (fun p => bif p == 2 then true else p == 62) 80 _ _ _ _ _ _ ?_
          simp only [d, d2, d0, e8, bI_in, bI_0, bI_1, bI_t, bI_f, bI_01, Tr_X0_readFrom, ae_aload_n, ae_getfield, ae_invokevirtual, dX3_letGoBy_54, dX3_letGoBy_55, dX3_letGoBy_58, dX3_letGoBy_59, tbX3_g22, ca_X3_letGoBy_231, ca_X3_letGoBy_236, ca_X3_letGoBy_225, ca_X3_letGoBy_172, ca_X3_letGoBy_239, ca_X3_letGoBy_242, ca_X3_letGoBy_181, ca_X3_letGoBy_245, ca_X3_letGoBy_248, ab_wp0, ab_wps, ab_stp, ab_g, ab_st, ab_k2, ab_cl, ab_pop, ab_sz, ab_2, ab_ret, ab_f4, ab_tg, ab_I, ab_II, ab_A, ab_Rf, ab_VR, ab_IR, ab_VIR, ab_1, ab_LL, ab_DD, ab_ob, ab_pr, ab_qr, ab_ln, ab_so, ab_vI, ab_vA, ab_vD, ab_vL, ab_v2, ab_c, ab_fit, ab_rv, ab_tsw, ab_lsw, ab_up_eq, Fin.isValue, ab_f0, ab_f1, ab_f2, ab_f3, List.getElem?_cons_zero, List.getElem?_cons_succ, List.set_cons_zero, List.set_cons_succ, List.length_cons, List.length_nil, List.size_toArray, List.head?_cons, List.tail_cons, Option.map_some, cond_true, cond_false, true_and, and_true, false_and, and_false, not_true_eq_false, not_false_eq_true, true_imp_iff, false_imp_iff, if_true, if_false, ite_true, ite_false, ↓reduceIte, Nat.reduceAdd, Nat.reduceEqDiff, Nat.reduceLeDiff, Nat.reduceLT, Nat.reduceBEq, Nat.reduceBNe, Int.reduceAdd, Int.reduceNeg, Int.reduceSub, Int.reduceLE, Int.reduceLT, Int.reduceToNat, Int.reduceEq, Int.reduceMul, Int.cast_ofNat_Int, Nat.zero_add, Nat.add_zero, Nat.le_refl, eq_self, ne_eq, reduceCtorEq, or_true, true_or, or_false, false_or, Bool.or_true, Bool.or_false, Bool.true_or, Bool.false_or, Nat.zero_le, Int.le_refl, Int.ofNat_zero, Int.ofNat_one, Bool.false_eq_true]
          (repeat' (first | intro _ | refine And.intro ?_ ?_)) <;> (first | exact a3 _ (goG_cov g2 (by assumption) (by assumption)) | contradiction | omega | (exfalso; omega))
        have a1 : ∀ h2 v, goG a b c n w q T (.inl (3, [.inr (.inl (some r)), .inr (.inl (some t)), .inr (.inl (some c)), .inr (.inl (some b))])) ws h h2 f (blowF S1 (dayF T.1 (S1.day % 7)) (dayF T.2.1 (S1.day % 7))).2 → V 40 [some (.inr (.inl (some a))), some (.inr (.inl (some w))), some (.inl days), some (.inl i), some (.inl (S1.day % 7))] [.inl v] h2 0 0 := by
          intro h2 v g2
          obtain ⟨d, d3, d2, d0, -⟩ := id g2
          obtain ⟨-, m0, m1, m2, m3, m4, m5, m6, m7, m8, -, -, e9, -⟩ := roof_el d0
          obtain ⟨-, -, e8, -⟩ := tab_el d3
          dsimp only at e8
          have a2' := fun h3 q1 q2 => a2 h3 (goG_roof g2 q1 q2)
          simp only [goA] at a2'
          refine hV (fun p => bif p == 2 then true else p == 54) 80 _ _ _ _ _ _ ?_
          simp only [d, d3, d0, e9, e8, bI_in, bI_0, bI_1, bI_t, bI_f, bI_01, Tr_X2_hailOf, Tr_X1_crackBy, ae_aload_n, ae_getfield, ae_iload, ae_invokevirtual, ae_pop, dX3_letGoBy_40, dX3_letGoBy_41, dX3_letGoBy_42, dX3_letGoBy_43, dX3_letGoBy_46, dX3_letGoBy_48, dX3_letGoBy_51, tbX3_g29, ca_X3_letGoBy_231, ca_X3_letGoBy_236, ca_X3_letGoBy_225, ca_X3_letGoBy_172, ca_X3_letGoBy_239, ca_X3_letGoBy_242, ca_X3_letGoBy_181, ca_X3_letGoBy_245, ca_X3_letGoBy_248, ab_wp0, ab_wps, ab_stp, ab_g, ab_st, ab_k2, ab_cl, ab_pop, ab_sz, ab_2, ab_ret, ab_f4, ab_tg, ab_I, ab_II, ab_A, ab_Rf, ab_VR, ab_IR, ab_VIR, ab_1, ab_LL, ab_DD, ab_ob, ab_pr, ab_qr, ab_ln, ab_so, ab_vI, ab_vA, ab_vD, ab_vL, ab_v2, ab_c, ab_fit, ab_rv, ab_tsw, ab_lsw, ab_up_eq, Fin.isValue, ab_f0, ab_f1, ab_f2, ab_f3, List.getElem?_cons_zero, List.getElem?_cons_succ, List.set_cons_zero, List.set_cons_succ, List.length_cons, List.length_nil, List.size_toArray, List.head?_cons, List.tail_cons, Option.map_some, cond_true, cond_false, true_and, and_true, false_and, and_false, not_true_eq_false, not_false_eq_true, true_imp_iff, false_imp_iff, if_true, if_false, ite_true, ite_false, ↓reduceIte, Nat.reduceAdd, Nat.reduceEqDiff, Nat.reduceLeDiff, Nat.reduceLT, Nat.reduceBEq, Nat.reduceBNe, Int.reduceAdd, Int.reduceNeg, Int.reduceSub, Int.reduceLE, Int.reduceLT, Int.reduceToNat, Int.reduceEq, Int.reduceMul, Int.cast_ofNat_Int, Nat.zero_add, Nat.add_zero, Nat.le_refl, eq_self, ne_eq, reduceCtorEq, or_true, true_or, or_false, false_or, Bool.or_true, Bool.or_false, Bool.true_or, Bool.false_or, Nat.zero_le, Int.le_refl, Int.ofNat_zero, Int.ofNat_one, Bool.false_eq_true]
          simp only [ab_in]
          (repeat' (first | intro _ | refine And.intro ?_ ?_)) <;> (first | exact a2' _ (by assumption) (by assumption) | contradiction | omega | (exfalso; omega))
        obtain ⟨d, d3, d2, d0, -⟩ := id g
        obtain ⟨-, m0, m1, m2, m3, m4, m5, m6, m7, m8, -, -, (e9 : h1 w = some (.inl (1, [.inr (.inl (some m0)), .inr (.inl (some m1)), .inr (.inl (some m2)), .inr (.inl (some m3)), .inr (.inl (some m4)), .inr (.inl (some m5)), .inr (.inl (some m6)), .inr (.inl (some m7)), .inr (.inl (some m8)), .inl (S1).day, .inl (S1).laid, .inl (S1).there, .inl (S1).blown]))), -⟩ := roof_el d0
        obtain ⟨-, -, e8, -⟩ := tab_el d3
        dsimp only at e8
        have a1' := fun h3 q1 q2 => a1 h3 (blowF S1 (dayF T.1 (S1.day % 7)) (dayF T.2.1 (S1.day % 7))).1 (goG_roof g q1 q2)
        rcases hu with rfl | ⟨v, rfl⟩
        all_goals (refine hV (fun p => bif p == 2 then true else p == 40) 80 _ _ _ _ _ _ ?_; simp only [d, d3, d0, e9, e8, he, bI_in, bI_0, bI_1, bI_t, bI_f, bI_01, Tr_J9_floorMod_7cf53, Tr_X2_forceOf, Tr_X2_isFromRight, Tr_X1_blow, ae_aload_n, ae_bipush, ae_getfield, ae_if_icmp, ae_iload, ae_iload_n, ae_invokestatic, ae_invokevirtual, ae_istore, dX3_letGoBy_2, dX3_letGoBy_3, dX3_letGoBy_4, dX3_letGoBy_7, dX3_letGoBy_8, dX3_letGoBy_11, dX3_letGoBy_13, dX3_letGoBy_16, dX3_letGoBy_18, dX3_letGoBy_19, dX3_letGoBy_20, dX3_letGoBy_23, dX3_letGoBy_25, dX3_letGoBy_28, dX3_letGoBy_29, dX3_letGoBy_32, dX3_letGoBy_34, dX3_letGoBy_37, tbX3_g139, tbX3_g29, ca_X3_letGoBy_231, ca_X3_letGoBy_236, ca_X3_letGoBy_225, ca_X3_letGoBy_172, ca_X3_letGoBy_239, ca_X3_letGoBy_242, ca_X3_letGoBy_181, ca_X3_letGoBy_245, ca_X3_letGoBy_248, ab_wp0, ab_wps, ab_stp, ab_g, ab_st, ab_k2, ab_cl, ab_pop, ab_sz, ab_2, ab_ret, ab_f4, ab_tg, ab_I, ab_II, ab_A, ab_Rf, ab_VR, ab_IR, ab_VIR, ab_1, ab_LL, ab_DD, ab_ob, ab_pr, ab_qr, ab_ln, ab_so, ab_vI, ab_vA, ab_vD, ab_vL, ab_v2, ab_c, ab_fit, ab_rv, ab_tsw, ab_lsw, ab_up_eq, Fin.isValue, ab_f0, ab_f1, ab_f2, ab_f3, List.getElem?_cons_zero, List.getElem?_cons_succ, List.set_cons_zero, List.set_cons_succ, List.length_cons, List.length_nil, List.size_toArray, List.head?_cons, List.tail_cons, Option.map_some, cond_true, cond_false, true_and, and_true, false_and, and_false, not_true_eq_false, not_false_eq_true, true_imp_iff, false_imp_iff, if_true, if_false, ite_true, ite_false, ↓reduceIte, Nat.reduceAdd, Nat.reduceEqDiff, Nat.reduceLeDiff, Nat.reduceLT, Nat.reduceBEq, Nat.reduceBNe, Int.reduceAdd, Int.reduceNeg, Int.reduceSub, Int.reduceLE, Int.reduceLT, Int.reduceToNat, Int.reduceEq, Int.reduceMul, Int.cast_ofNat_Int, Nat.zero_add, Nat.add_zero, Nat.le_refl, eq_self, ne_eq, reduceCtorEq, or_true, true_or, or_false, false_or, Bool.or_true, Bool.or_false, Bool.true_or, Bool.false_or, Nat.zero_le, Int.le_refl, Int.ofNat_zero, Int.ofNat_one, Bool.false_eq_true]; simp only [ab_in]; (repeat' (first | intro _ | refine And.intro ?_ ?_)) <;> (first | exact a1' _ (by assumption) (by assumption) | contradiction | omega | (exfalso; omega)))
    have l0 := loop days.toNat 0 h f0 S none (Or.inl rfl) (by omega) (by omega) (by omega) ⟨D0, D3, D2, hQ, ab_fr.rf⟩ rfl
    refine hV (fun p => p == 2) 80 _ _ _ _ _ _ ?_
    simp only [bI_in, bI_0, bI_1, bI_t, bI_f, bI_01, ae_iconst, ae_istore_n, dX3_letGoBy_0, dX3_letGoBy_1, ca_X3_letGoBy_231, ca_X3_letGoBy_236, ca_X3_letGoBy_225, ca_X3_letGoBy_172, ca_X3_letGoBy_239, ca_X3_letGoBy_242, ca_X3_letGoBy_181, ca_X3_letGoBy_245, ca_X3_letGoBy_248, ab_wp0, ab_wps, ab_stp, ab_g, ab_st, ab_k2, ab_cl, ab_pop, ab_sz, ab_2, ab_ret, ab_f4, ab_tg, ab_I, ab_II, ab_A, ab_Rf, ab_VR, ab_IR, ab_VIR, ab_1, ab_LL, ab_DD, ab_ob, ab_pr, ab_qr, ab_ln, ab_so, ab_vI, ab_vA, ab_vD, ab_vL, ab_v2, ab_c, ab_fit, ab_rv, ab_tsw, ab_lsw, ab_up_eq, Fin.isValue, ab_f0, ab_f1, ab_f2, ab_f3, List.getElem?_cons_zero, List.getElem?_cons_succ, List.set_cons_zero, List.set_cons_succ, List.length_cons, List.length_nil, List.size_toArray, List.head?_cons, List.tail_cons, Option.map_some, cond_true, cond_false, true_and, and_true, false_and, and_false, not_true_eq_false, not_false_eq_true, true_imp_iff, false_imp_iff, if_true, if_false, ite_true, ite_false, ↓reduceIte, Nat.reduceAdd, Nat.reduceEqDiff, Nat.reduceLeDiff, Nat.reduceLT, Nat.reduceBEq, Nat.reduceBNe, Int.reduceAdd, Int.reduceNeg, Int.reduceSub, Int.reduceLE, Int.reduceLT, Int.reduceToNat, Int.reduceEq, Int.reduceMul, Int.cast_ofNat_Int, Nat.zero_add, Nat.add_zero, Nat.le_refl, eq_self, ne_eq, reduceCtorEq, or_true, true_or, or_false, false_or, Bool.or_true, Bool.or_false, Bool.true_or, Bool.false_or, Nat.zero_le, Int.le_refl, Int.ofNat_zero, Int.ofNat_one, Bool.false_eq_true]
    exact l0
  · exact hT.elim
set_option maxRecDepth 100000 in
theorem con_X3_letGoBy (l : Launch) (D : va_G) (ty : Nat → ClassId) (base : Nat) : ab_Con l D vwCl ty lw_ts base lw_wd yX3_letGoBy cX3_letGoBy 5 none 5 117 0 0 Tr_X3_letGoBy :=
  ab_con_of (own := RX3) (rt := 0) (tb := tbX3) (ini := false) (ca := ca_X3_letGoBy) (by decide +kernel) rfl (fun h => by cases h) rfl lw_wd_ok wtbX3 lw_ar cm_X3_letGoBy
    (fun p e R s m args below meth c K hcx => by
      obtain ⟨hx, hb, hml, hown, hF, rfl⟩ := hcx
      exact ab_lk_all (ab_all_c (ab_tc_S hx hb hml hown lw_wd_ok hF ⟨rfl, rfl⟩ (con_J9_floorMod_7cf53 l D ty base) (lw_wi (by decide +kernel) (by decide +kernel)) (lw_wi (by decide +kernel) (by decide +kernel)) (lw_wi (by decide +kernel) (by decide +kernel)) (lw_wi (by decide +kernel) (by decide +kernel)) (by decide +kernel) ⟨by decide, by decide⟩) (ab_all_c (ab_tc_V hx hb hml hown lw_wd_ok hF ⟨rfl, rfl⟩ (con_X2_forceOf l D ty base) rfl (lw_wi (by decide +kernel) (by decide +kernel)) (lw_wi (by decide +kernel) (by decide +kernel)) (lw_wi (by decide +kernel) (by decide +kernel)) (lw_wi (by decide +kernel) (by decide +kernel)) (lw_wi (by decide +kernel) (by decide +kernel)) (by decide +kernel) ⟨by decide, by decide⟩) (ab_all_c (ab_tc_V hx hb hml hown lw_wd_ok hF ⟨rfl, rfl⟩ (con_X2_isFromRight l D ty base) rfl (lw_wi (by decide +kernel) (by decide +kernel)) (lw_wi (by decide +kernel) (by decide +kernel)) (lw_wi (by decide +kernel) (by decide +kernel)) (lw_wi (by decide +kernel) (by decide +kernel)) (lw_wi (by decide +kernel) (by decide +kernel)) (by decide +kernel) ⟨by decide, by decide⟩) (ab_all_c (ab_tc_V hx hb hml hown lw_wd_ok hF ⟨rfl, rfl⟩ (con_X1_blow l D ty base) rfl (lw_wi (by decide +kernel) (by decide +kernel)) (lw_wi (by decide +kernel) (by decide +kernel)) (lw_wi (by decide +kernel) (by decide +kernel)) (lw_wi (by decide +kernel) (by decide +kernel)) (lw_wi (by decide +kernel) (by decide +kernel)) (by decide +kernel) ⟨by decide, by decide⟩) (ab_all_c (ab_tc_V hx hb hml hown lw_wd_ok hF ⟨rfl, rfl⟩ (con_X2_hailOf l D ty base) rfl (lw_wi (by decide +kernel) (by decide +kernel)) (lw_wi (by decide +kernel) (by decide +kernel)) (lw_wi (by decide +kernel) (by decide +kernel)) (lw_wi (by decide +kernel) (by decide +kernel)) (lw_wi (by decide +kernel) (by decide +kernel)) (by decide +kernel) ⟨by decide, by decide⟩) (ab_all_c (ab_tc_V hx hb hml hown lw_wd_ok hF ⟨rfl, rfl⟩ (con_X1_crackBy l D ty base) rfl (lw_wi (by decide +kernel) (by decide +kernel)) (lw_wi (by decide +kernel) (by decide +kernel)) (lw_wi (by decide +kernel) (by decide +kernel)) (lw_wi (by decide +kernel) (by decide +kernel)) (lw_wi (by decide +kernel) (by decide +kernel)) (by decide +kernel) ⟨by decide, by decide⟩) (ab_all_c (ab_tc_V hx hb hml hown lw_wd_ok hF ⟨rfl, rfl⟩ (con_X0_readFrom l D ty base) rfl (lw_wi (by decide +kernel) (by decide +kernel)) (lw_wi (by decide +kernel) (by decide +kernel)) (lw_wi (by decide +kernel) (by decide +kernel)) (lw_wi (by decide +kernel) (by decide +kernel)) (lw_wi (by decide +kernel) (by decide +kernel)) (by decide +kernel) ⟨by decide, by decide⟩) (ab_all_c (ab_tc_V hx hb hml hown lw_wd_ok hF ⟨rfl, rfl⟩ (con_X2_rainOf l D ty base) rfl (lw_wi (by decide +kernel) (by decide +kernel)) (lw_wi (by decide +kernel) (by decide +kernel)) (lw_wi (by decide +kernel) (by decide +kernel)) (lw_wi (by decide +kernel) (by decide +kernel)) (lw_wi (by decide +kernel) (by decide +kernel)) (by decide +kernel) ⟨by decide, by decide⟩) (ab_all_c (ab_tc_V hx hb hml hown lw_wd_ok hF ⟨rfl, rfl⟩ (con_X1_rotBy l D ty base) rfl (lw_wi (by decide +kernel) (by decide +kernel)) (lw_wi (by decide +kernel) (by decide +kernel)) (lw_wi (by decide +kernel) (by decide +kernel)) (lw_wi (by decide +kernel) (by decide +kernel)) (lw_wi (by decide +kernel) (by decide +kernel)) (by decide +kernel) ⟨by decide, by decide⟩) (ab_all_n)))))))))))
    (by intro as h K ht; unfold Tr_X3_letGoBy at ht; split at ht <;> first | exact ht.elim | exact Nat.le_of_ble_eq_true rfl) (sem_X3_letGoBy base)
