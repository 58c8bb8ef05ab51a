/-! ===== Math ===== -/
def tbJ9 : ATb := (ab_lk [], ab_lk [], ab_lk [], ab_lk [], ab_lk [])
theorem wtbJ9 : ab_Tb RJ9 vwCl lw_wd false tbJ9 := ⟨ab_lk_all ab_all_n, ab_lk_all ab_all_n, ab_lk_all ab_all_n, ab_lk_all ab_all_n, ab_lk_all ab_all_n⟩
theorem ab_msb0 (a : Int) (ha : 0 ≤ a ∧ a ≤ 2147483647) : (BitVec.ofInt 32 a).msb = false := by
  rw [BitVec.msb_eq_toInt, BitVec.toInt_ofInt, Int.bmod_def]
  simp only [decide_eq_false_iff_not]
  omega
theorem ab_xor_nn {a b : Int} (ha : 0 ≤ a ∧ a ≤ 2147483647) (hb : 0 ≤ b ∧ b ≤ 2147483647) : 0 ≤ (Int32.ofInt a ^^^ Int32.ofInt b).toInt := by
  have h : (BitVec.ofInt 32 a ^^^ BitVec.ofInt 32 b).msb = false := by
    rw [BitVec.msb_xor, ab_msb0 a ha, ab_msb0 b hb]; rfl
  rw [BitVec.msb_eq_toInt] at h
  have h2 := of_decide_eq_false h
  show 0 ≤ (BitVec.ofInt 32 a ^^^ BitVec.ofInt 32 b).toInt
  omega
theorem ab_i32_in (x : Int32) : ab_in x.toInt := by
  have h1 := Int32.le_toInt x
  have h2 := Int32.toInt_lt x
  unfold ab_in
  omega
def Tr_J9_min_7cf53 : ATr := fun _as h K => match _as with
  | [.inl x, .inl y] => (ab_in x ∧ ab_in y) ∧ K (some (.inl (if y < x then y else x))) h
  | _ => False
theorem mo_J9_min_7cf53 : ab_mo Tr_J9_min_7cf53 := by
  intro as h K K' hk ht
  unfold Tr_J9_min_7cf53 at ht ⊢
  split at ht
  · exact ⟨ht.1, hk _ _ ht.2⟩
  · exact ht.elim
def ca_J9_min_7cf53 : Nat → Option ACS := ab_lk []
theorem cm_J9_min_7cf53 : ∀ i q, ca_J9_min_7cf53 i = some q → ab_moq i q := ab_lk_all (ab_all_n)
set_option maxRecDepth 100000 in
set_option maxHeartbeats 1000000 in
theorem sem_J9_min_7cf53 (base : Nat) : ab_Sem tbJ9 lw_ts base cJ9_min_7cf53 ca_J9_min_7cf53 1 2 0 0 (fun as => ab_en as 2) Tr_J9_min_7cf53 := by
  intro as h K hT V hV
  unfold Tr_J9_min_7cf53 at hT
  split at hT
  · rename_i x y
    obtain ⟨hs, hK⟩ := hT
    show V 0 [some (.inl x), some (.inl y)] [] h 0 0
    refine hV (fun _ => false) 80 _ _ _ _ _ _ ?_
    simp only [ae_goto, ae_if_icmp, ae_iload_n, ae_ireturn, dJ9_min_7cf53_0, dJ9_min_7cf53_1, dJ9_min_7cf53_2, dJ9_min_7cf53_5, dJ9_min_7cf53_6, dJ9_min_7cf53_9, dJ9_min_7cf53_10, ab_wp0, ab_wps, ab_stp, ab_g, ab_st, ab_k2, ab_cl, ab_pop, ab_sz, ab_2, ab_ret, ab_f4, ab_tg, ab_I, ab_II, ab_A, ab_Rf, ab_VR, ab_IR, ab_VIR, ab_1, ab_LL, ab_DD, ab_ob, ab_pr, ab_qr, ab_ln, ab_so, ab_vI, ab_vA, ab_vD, ab_vL, ab_v2, ab_c, ab_fit, ab_rv, ab_tsw, ab_lsw, ab_up_eq, Fin.isValue, ab_f0, ab_f1, ab_f2, ab_f3, List.getElem?_cons_zero, List.getElem?_cons_succ, List.set_cons_zero, List.set_cons_succ, List.length_cons, List.length_nil, List.size_toArray, List.head?_cons, List.tail_cons, Option.map_some, cond_true, cond_false, true_and, and_true, false_and, and_false, not_true_eq_false, not_false_eq_true, true_imp_iff, false_imp_iff, if_true, if_false, ite_true, ite_false, ↓reduceIte, Nat.reduceAdd, Nat.reduceEqDiff, Nat.reduceLeDiff, Nat.reduceLT, Nat.reduceBEq, Nat.reduceBNe, Int.reduceAdd, Int.reduceNeg, Int.reduceSub, Int.reduceLE, Int.reduceLT, Int.reduceToNat, Int.reduceEq, Int.reduceMul, Int.cast_ofNat_Int, Nat.zero_add, Nat.add_zero, Nat.le_refl, eq_self, ne_eq, reduceCtorEq, or_true, true_or, or_false, false_or, Bool.or_true, Bool.or_false, Bool.true_or, Bool.false_or, Nat.zero_le, Int.le_refl, Int.ofNat_zero, Int.ofNat_one, Bool.false_eq_true]
    by_cases hc : y < x
    · simp only [hc, if_true] at hK
      simp only [ab_in] at hs ⊢
      (repeat' (first | intro _ | refine And.intro ?_ ?_)) <;> (first | exact hK | contradiction | omega | (exfalso; omega))
    · simp only [hc, if_false] at hK
      simp only [ab_in] at hs ⊢
      (repeat' (first | intro _ | refine And.intro ?_ ?_)) <;> (first | exact hK | contradiction | omega | (exfalso; omega))
  · exact hT.elim
set_option maxRecDepth 100000 in
theorem con_J9_min_7cf53 (l : Launch) (D : va_G) (ty : Nat → ClassId) (base : Nat) : ab_Con l D vwCl ty lw_ts base lw_wd yJ9_min_7cf53 cJ9_min_7cf53 2 (some .int) 0 0 0 0 Tr_J9_min_7cf53 :=
  ab_con_of (own := RJ9) (rt := 1) (tb := tbJ9) (ini := false) (ca := ca_J9_min_7cf53) (by decide +kernel) rfl (fun h => by cases h) rfl lw_wd_ok wtbJ9 lw_ar cm_J9_min_7cf53
    (fun p e R s m args below meth c K hcx => by
      obtain ⟨hx, hb, hml, hown, hF, rfl⟩ := hcx
      exact ab_lk_all (ab_all_n))
    (by intro as h K ht; unfold Tr_J9_min_7cf53 at ht; split at ht <;> first | exact ht.elim | exact Nat.le_of_ble_eq_true rfl) (sem_J9_min_7cf53 base)
def Tr_J9_floorMod_7cf53 : ATr := fun _as h K => match _as with
  | [.inl x, .inl y] => ((0 ≤ x ∧ x ≤ 2147483647) ∧ (0 < y ∧ y ≤ 2147483647)) ∧ K (some (.inl (x % y))) h
  | _ => False
theorem mo_J9_floorMod_7cf53 : ab_mo Tr_J9_floorMod_7cf53 := by
  intro as h K K' hk ht
  unfold Tr_J9_floorMod_7cf53 at ht ⊢
  split at ht
  · exact ⟨ht.1, hk _ _ ht.2⟩
  · exact ht.elim
def ca_J9_floorMod_7cf53 : Nat → Option ACS := ab_lk []
theorem cm_J9_floorMod_7cf53 : ∀ i q, ca_J9_floorMod_7cf53 i = some q → ab_moq i q := ab_lk_all (ab_all_n)
set_option maxRecDepth 100000 in
set_option maxHeartbeats 1000000 in
theorem sem_J9_floorMod_7cf53 (base : Nat) : ab_Sem tbJ9 lw_ts base cJ9_floorMod_7cf53 ca_J9_floorMod_7cf53 1 3 0 0 (fun as => ab_en as 3) Tr_J9_floorMod_7cf53 := by
  intro as h K hT V hV
  unfold Tr_J9_floorMod_7cf53 at hT
  split at hT
  · rename_i x y
    obtain ⟨hs, hK⟩ := hT
    show V 0 [some (.inl x), some (.inl y), none] [] h 0 0
    have hxr := ab_xor_nn hs.1 (b := y) (by omega)
    have hxi := ab_i32_in (Int32.ofInt x ^^^ Int32.ofInt y)
    rw [← Int.tmod_eq_emod_of_nonneg hs.1.1] at hK
    refine hV (fun _ => false) 80 _ _ _ _ _ _ ?_
    simp only [ae_iadd, ae_ifCond, ae_iload_n, ae_irem, ae_ireturn, ae_istore_n, ae_ixor, dJ9_floorMod_7cf53_0, dJ9_floorMod_7cf53_1, dJ9_floorMod_7cf53_2, dJ9_floorMod_7cf53_3, dJ9_floorMod_7cf53_4, dJ9_floorMod_7cf53_5, dJ9_floorMod_7cf53_6, dJ9_floorMod_7cf53_7, dJ9_floorMod_7cf53_10, dJ9_floorMod_7cf53_11, dJ9_floorMod_7cf53_14, dJ9_floorMod_7cf53_15, dJ9_floorMod_7cf53_16, dJ9_floorMod_7cf53_17, dJ9_floorMod_7cf53_18, dJ9_floorMod_7cf53_19, ab_wp0, ab_wps, ab_stp, ab_g, ab_st, ab_k2, ab_cl, ab_pop, ab_sz, ab_2, ab_ret, ab_f4, ab_tg, ab_I, ab_II, ab_A, ab_Rf, ab_VR, ab_IR, ab_VIR, ab_1, ab_LL, ab_DD, ab_ob, ab_pr, ab_qr, ab_ln, ab_so, ab_vI, ab_vA, ab_vD, ab_vL, ab_v2, ab_c, ab_fit, ab_rv, ab_tsw, ab_lsw, ab_up_eq, Fin.isValue, ab_f0, ab_f1, ab_f2, ab_f3, List.getElem?_cons_zero, List.getElem?_cons_succ, List.set_cons_zero, List.set_cons_succ, List.length_cons, List.length_nil, List.size_toArray, List.head?_cons, List.tail_cons, Option.map_some, cond_true, cond_false, true_and, and_true, false_and, and_false, not_true_eq_false, not_false_eq_true, true_imp_iff, false_imp_iff, if_true, if_false, ite_true, ite_false, ↓reduceIte, Nat.reduceAdd, Nat.reduceEqDiff, Nat.reduceLeDiff, Nat.reduceLT, Nat.reduceBEq, Nat.reduceBNe, Int.reduceAdd, Int.reduceNeg, Int.reduceSub, Int.reduceLE, Int.reduceLT, Int.reduceToNat, Int.reduceEq, Int.reduceMul, Int.cast_ofNat_Int, Nat.zero_add, Nat.add_zero, Nat.le_refl, eq_self, ne_eq, reduceCtorEq, or_true, true_or, or_false, false_or, Bool.or_true, Bool.or_false, Bool.true_or, Bool.false_or, Nat.zero_le, Int.le_refl, Int.ofNat_zero, Int.ofNat_one, Bool.false_eq_true]
    generalize Int.tmod x y = w at hK ⊢
    generalize (Int32.ofInt x ^^^ Int32.ofInt y).toInt = u at hxr hxi ⊢
    simp only [ab_in] at hs hxi ⊢
    (repeat' (first | intro _ | refine And.intro ?_ ?_)) <;> (first | exact hK | contradiction | omega | (exfalso; omega))
  · exact hT.elim
set_option maxRecDepth 100000 in
theorem con_J9_floorMod_7cf53 (l : Launch) (D : va_G) (ty : Nat → ClassId) (base : Nat) : ab_Con l D vwCl ty lw_ts base lw_wd yJ9_floorMod_7cf53 cJ9_floorMod_7cf53 3 (some .int) 0 0 0 0 Tr_J9_floorMod_7cf53 :=
  ab_con_of (own := RJ9) (rt := 1) (tb := tbJ9) (ini := false) (ca := ca_J9_floorMod_7cf53) (by decide +kernel) rfl (fun h => by cases h) rfl lw_wd_ok wtbJ9 lw_ar cm_J9_floorMod_7cf53
    (fun p e R s m args below meth c K hcx => by
      obtain ⟨hx, hb, hml, hown, hF, rfl⟩ := hcx
      exact ab_lk_all (ab_all_n))
    (by intro as h K ht; unfold Tr_J9_floorMod_7cf53 at ht; split at ht <;> first | exact ht.elim | exact Nat.le_of_ble_eq_true rfl) (sem_J9_floorMod_7cf53 base)
/-! ===== rot ===== -/
def rtOne (f : Int → Int) (rain x row acc : Int) (S : RS) : RS := if inF f rain acc x row < 6 then S else setRotF S x row (if 9 < rotAtF S x row + 1 then 9 else rotAtF S x row + 1)
def rtCol (f : Int → Int) (rain x : Int) : Nat → Int → Int → RS → RS
  | 0, _, _, S => S
  | n + 1, row, acc, S => rtCol f rain x n (row - 1) (inF f rain acc x row) (rtOne f rain x row acc S)
def rtL (f : Int → Int) (rain : Int) : Nat → Int → RS → RS
  | 0, _, S => S
  | n + 1, x, S => rtL f rain n (x + 1) (rtCol f rain x 8 7 0 S)
def rtF (S : RS) (f : Int → Int) (rain : Int) : RS := rtL f rain 12 0 S
noncomputable def Tr_X1_rotBy : ATr := fun as h K => match as with
  | [.inr (.inl (some b)), .inr (.inl (some a)), .inl rain] => ab_so (ab_cov h a) fun P => ab_so (ab_roof h b) fun Q => (0 ≤ rain ∧ rain ≤ 9) ∧ ∀ h', ab_roof h' b = some (Q.1, rtF Q.2 P.2 rain) → ab_fr h h' (b :: Q.1) → K (none) h'
  | _ => False
theorem mo_X1_rotBy : ab_mo Tr_X1_rotBy := by
  intro as h K K' hk ht
  unfold Tr_X1_rotBy at ht ⊢
  split at ht
  · exact ab_so_mo (fun P q => ab_so_mo (fun Q q2 => ⟨q2.1, fun h' e1 e2 => hk _ _ (q2.2 h' e1 e2)⟩) q) ht
  · exact ht.elim
def ca_X1_rotBy : Nat → Option ACS := ab_lk [(104, (0, 0, 5, 0, 0, Tr_X0_comesIn)), (82, (0, 1, 3, 0, 0, Tr_X1_rotAt)), (110, (2, 0, 2, 0, 0, Tr_J9_min_7cf53)), (115, (0, 1, 4, 0, 0, Tr_X1_setRot))]
theorem ca_X1_rotBy_104 : ca_X1_rotBy 104 = some (0, 0, 5, 0, 0, Tr_X0_comesIn) := rfl
theorem ca_X1_rotBy_82 : ca_X1_rotBy 82 = some (0, 1, 3, 0, 0, Tr_X1_rotAt) := rfl
theorem ca_X1_rotBy_110 : ca_X1_rotBy 110 = some (2, 0, 2, 0, 0, Tr_J9_min_7cf53) := rfl
theorem ca_X1_rotBy_115 : ca_X1_rotBy 115 = some (0, 1, 4, 0, 0, Tr_X1_setRot) := rfl
theorem cm_X1_rotBy : ∀ i q, ca_X1_rotBy i = some q → ab_moq i q := ab_lk_all (ab_all_c mo_X0_comesIn (ab_all_c mo_X1_rotAt (ab_all_c mo_J9_min_7cf53 (ab_all_c mo_X1_setRot (ab_all_n)))))
set_option maxRecDepth 100000 in
set_option maxHeartbeats 2000000 in
theorem sem_X1_rotBy (base : Nat) : ab_Sem tbX1 lw_ts base cX1_rotBy ca_X1_rotBy 0 6 0 0 (fun as => ab_en as 6) Tr_X1_rotBy := by
  intro as h K hT V hV
  unfold Tr_X1_rotBy at hT
  split at hT
  · rename_i b a rain
    obtain ⟨⟨n0, f⟩, hP, hT2⟩ := ab_so_el hT
    obtain ⟨⟨ns, S⟩, hQ, hs, hK⟩ := ab_so_el hT2
    dsimp only at hK hs
    have hdj := cov_roof hP hQ
    dsimp only at hdj
    have hcv : ∀ h1, ab_fr h h1 (b :: ns) → ab_cov h1 a = some (n0, f) := by
      intro h1 fr
      refine cov_fr hP (fr a ?_) (fr n0 ?_)
      · intro hm
        exact (hdj a (by simpa using hm)).1 rfl
      · intro hm
        exact (hdj n0 (by simpa using hm)).2 rfl
    show V 0 [some (.inr (.inl (some b))), some (.inr (.inl (some a))), some (.inl rain), none, none, none] [] h 0 0
    have inner : ∀ (x : Int), 0 ≤ x → x < 12 → ∀ (R : RS), (∀ h2 w u, ab_roof h2 b = some (ns, R) → ab_fr h h2 (b :: ns) → V 66 [some (.inr (.inl (some b))), some (.inr (.inl (some a))), some (.inl rain), some (.inl x), some (.inl w), some (.inl u)] [] h2 0 0) → ∀ (n : Nat) (row acc : Int) (h1 : AH) (S1 : RS), row + 1 = n → row ≤ 7 → 0 ≤ acc ∧ acc ≤ 18 → ab_roof h1 b = some (ns, S1) → ab_fr h h1 (b :: ns) → rtCol f rain x n row acc S1 = R → V 15 [some (.inr (.inl (some b))), some (.inr (.inl (some a))), some (.inl rain), some (.inl x), some (.inl acc), some (.inl row)] [] h1 0 0 := by
      intro x hx0 hx R hk2 n
      induction n with
      | zero =>
        intro row acc h1 S1 hr h7 hac hQ1 fr he1
        have he : row < 0 := by omega
        simp only [rtCol] at he1
        subst he1
        have hk3 := hk2 h1 acc row hQ1 fr
        refine hV (fun p => bif p == 15 then true else p == 66) 80 _ _ _ _ _ _ ?_
        simp only [he, bI_in, bI_0, bI_1, bI_t, bI_f, bI_01, ae_aload_n, ae_bipush, ae_goto, ae_iadd, ae_iconst, ae_ifCond, ae_if_icmp, ae_iinc, ae_iload, ae_iload_n, ae_invokestatic, ae_invokevirtual, ae_istore, ae_istore_n, ae_return_, dX1_rotBy_0, dX1_rotBy_1, dX1_rotBy_2, dX1_rotBy_3, dX1_rotBy_5, dX1_rotBy_8, dX1_rotBy_9, dX1_rotBy_11, dX1_rotBy_13, dX1_rotBy_15, dX1_rotBy_17, dX1_rotBy_20, dX1_rotBy_21, dX1_rotBy_22, dX1_rotBy_24, dX1_rotBy_25, dX1_rotBy_27, dX1_rotBy_30, dX1_rotBy_32, dX1_rotBy_34, dX1_rotBy_36, dX1_rotBy_39, dX1_rotBy_40, dX1_rotBy_41, dX1_rotBy_43, dX1_rotBy_44, dX1_rotBy_45, dX1_rotBy_47, dX1_rotBy_50, dX1_rotBy_51, dX1_rotBy_52, dX1_rotBy_54, dX1_rotBy_57, dX1_rotBy_60, dX1_rotBy_63, dX1_rotBy_66, dX1_rotBy_69, dX1_rotBy_72, ca_X1_rotBy_104, ca_X1_rotBy_82, ca_X1_rotBy_110, ca_X1_rotBy_115, ab_wp0, ab_wps, ab_stp, ab_g, ab_st, ab_k2, ab_cl, ab_pop, ab_sz, ab_2, ab_ret, ab_f4, ab_tg, ab_I, ab_II, ab_A, ab_Rf, ab_VR, ab_IR, ab_VIR, ab_1, ab_LL, ab_DD, ab_ob, ab_pr, ab_qr, ab_ln, ab_so, ab_vI, ab_vA, ab_vD, ab_vL, ab_v2, ab_c, ab_fit, ab_rv, ab_tsw, ab_lsw, ab_up_eq, Fin.isValue, ab_f0, ab_f1, ab_f2, ab_f3, List.getElem?_cons_zero, List.getElem?_cons_succ, List.set_cons_zero, List.set_cons_succ, List.length_cons, List.length_nil, List.size_toArray, List.head?_cons, List.tail_cons, Option.map_some, cond_true, cond_false, true_and, and_true, false_and, and_false, not_true_eq_false, not_false_eq_true, true_imp_iff, false_imp_iff, if_true, if_false, ite_true, ite_false, ↓reduceIte, Nat.reduceAdd, Nat.reduceEqDiff, Nat.reduceLeDiff, Nat.reduceLT, Nat.reduceBEq, Nat.reduceBNe, Int.reduceAdd, Int.reduceNeg, Int.reduceSub, Int.reduceLE, Int.reduceLT, Int.reduceToNat, Int.reduceEq, Int.reduceMul, Int.cast_ofNat_Int, Nat.zero_add, Nat.add_zero, Nat.le_refl, eq_self, ne_eq, reduceCtorEq, or_true, true_or, or_false, false_or, Bool.or_true, Bool.or_false, Bool.true_or, Bool.false_or, Nat.zero_le, Int.le_refl, Int.ofNat_zero, Int.ofNat_one, Bool.false_eq_true]
        simp only [ab_in]
        (repeat' (first | intro _ | refine And.intro ?_ ?_)) <;> (first | exact hk3 | contradiction | omega | (exfalso; omega))
      | succ n ih =>
        intro row acc h1 S1 hr h7 hac hQ1 fr he1
        have he2 : ¬ row < 0 := by omega
        simp only [rtCol] at he1
        have hcv1 := hcv h1 fr
        obtain ⟨-, -, d, -⟩ := cov_el hcv1
        dsimp only at d
        obtain ⟨hB1, m0, m1, m2, m3, m4, m5, m6, m7, m8, -, -, e9, -⟩ := roof_el hQ1
        have hin := inF_r (f := f) (x := x) (y := row) hs hac
        have hro := rotAtF_r hB1 x row
        have aft : ∀ h2 S2, S2 = rtOne f rain x row acc S1 → ab_roof h2 b = some (ns, S2) → ab_fr h h2 (b :: ns) → V 60 [some (.inr (.inl (some b))), some (.inr (.inl (some a))), some (.inl rain), some (.inl x), some (.inl (inF f rain acc x row)), some (.inl row)] [] h2 0 0 := by
          intro h2 S2 e2 hQ2 fr2
          have ih1 := ih (row - 1) (inF f rain acc x row) h2 S2 (by omega) (by omega) hin hQ2 fr2 (by rw [e2]; exact he1)
          refine hV (fun p => p == 15) 80 _ _ _ _ _ _ ?_
          simp only [ae_goto, ae_iinc, dX1_rotBy_60, dX1_rotBy_63, ca_X1_rotBy_104, ca_X1_rotBy_82, ca_X1_rotBy_110, ca_X1_rotBy_115, ab_wp0, ab_wps, ab_stp, ab_g, ab_st, ab_k2, ab_cl, ab_pop, ab_sz, ab_2, ab_ret, ab_f4, ab_tg, ab_I, ab_II, ab_A, ab_Rf, ab_VR, ab_IR, ab_VIR, ab_1, ab_LL, ab_DD, ab_ob, ab_pr, ab_qr, ab_ln, ab_so, ab_vI, ab_vA, ab_vD, ab_vL, ab_v2, ab_c, ab_fit, ab_rv, ab_tsw, ab_lsw, ab_up_eq, Fin.isValue, ab_f0, ab_f1, ab_f2, ab_f3, List.getElem?_cons_zero, List.getElem?_cons_succ, List.set_cons_zero, List.set_cons_succ, List.length_cons, List.length_nil, List.size_toArray, List.head?_cons, List.tail_cons, Option.map_some, cond_true, cond_false, true_and, and_true, false_and, and_false, not_true_eq_false, not_false_eq_true, true_imp_iff, false_imp_iff, if_true, if_false, ite_true, ite_false, ↓reduceIte, Nat.reduceAdd, Nat.reduceEqDiff, Nat.reduceLeDiff, Nat.reduceLT, Nat.reduceBEq, Nat.reduceBNe, Int.reduceAdd, Int.reduceNeg, Int.reduceSub, Int.reduceLE, Int.reduceLT, Int.reduceToNat, Int.reduceEq, Int.reduceMul, Int.cast_ofNat_Int, Nat.zero_add, Nat.add_zero, Nat.le_refl, eq_self, ne_eq, reduceCtorEq, or_true, true_or, or_false, false_or, Bool.or_true, Bool.or_false, Bool.true_or, Bool.false_or, Nat.zero_le, Int.le_refl, Int.ofNat_zero, Int.ofNat_one, Bool.false_eq_true]
          exact ih1
        by_cases h6 : inF f rain acc x row < 6
        · have a1 := aft h1 S1 (by rw [rtOne, if_pos h6]) hQ1 fr
          refine hV (fun p => bif p == 15 then true else p == 60) 80 _ _ _ _ _ _ ?_
          simp only [d, e9, he2, h6, hcv1, hQ1, bI_in, bI_0, bI_1, bI_t, bI_f, bI_01, Tr_X0_comesIn, Tr_X1_rotAt, Tr_J9_min_7cf53, Tr_X1_setRot, ae_aload_n, ae_bipush, ae_goto, ae_iadd, ae_iconst, ae_ifCond, ae_if_icmp, ae_iinc, ae_iload, ae_iload_n, ae_invokestatic, ae_invokevirtual, ae_istore, ae_istore_n, ae_return_, dX1_rotBy_0, dX1_rotBy_1, dX1_rotBy_2, dX1_rotBy_3, dX1_rotBy_5, dX1_rotBy_8, dX1_rotBy_9, dX1_rotBy_11, dX1_rotBy_13, dX1_rotBy_15, dX1_rotBy_17, dX1_rotBy_20, dX1_rotBy_21, dX1_rotBy_22, dX1_rotBy_24, dX1_rotBy_25, dX1_rotBy_27, dX1_rotBy_30, dX1_rotBy_32, dX1_rotBy_34, dX1_rotBy_36, dX1_rotBy_39, dX1_rotBy_40, dX1_rotBy_41, dX1_rotBy_43, dX1_rotBy_44, dX1_rotBy_45, dX1_rotBy_47, dX1_rotBy_50, dX1_rotBy_51, dX1_rotBy_52, dX1_rotBy_54, dX1_rotBy_57, dX1_rotBy_60, dX1_rotBy_63, dX1_rotBy_66, dX1_rotBy_69, dX1_rotBy_72, ca_X1_rotBy_104, ca_X1_rotBy_82, ca_X1_rotBy_110, ca_X1_rotBy_115, ab_wp0, ab_wps, ab_stp, ab_g, ab_st, ab_k2, ab_cl, ab_pop, ab_sz, ab_2, ab_ret, ab_f4, ab_tg, ab_I, ab_II, ab_A, ab_Rf, ab_VR, ab_IR, ab_VIR, ab_1, ab_LL, ab_DD, ab_ob, ab_pr, ab_qr, ab_ln, ab_so, ab_vI, ab_vA, ab_vD, ab_vL, ab_v2, ab_c, ab_fit, ab_rv, ab_tsw, ab_lsw, ab_up_eq, Fin.isValue, ab_f0, ab_f1, ab_f2, ab_f3, List.getElem?_cons_zero, List.getElem?_cons_succ, List.set_cons_zero, List.set_cons_succ, List.length_cons, List.length_nil, List.size_toArray, List.head?_cons, List.tail_cons, Option.map_some, cond_true, cond_false, true_and, and_true, false_and, and_false, not_true_eq_false, not_false_eq_true, true_imp_iff, false_imp_iff, if_true, if_false, ite_true, ite_false, ↓reduceIte, Nat.reduceAdd, Nat.reduceEqDiff, Nat.reduceLeDiff, Nat.reduceLT, Nat.reduceBEq, Nat.reduceBNe, Int.reduceAdd, Int.reduceNeg, Int.reduceSub, Int.reduceLE, Int.reduceLT, Int.reduceToNat, Int.reduceEq, Int.reduceMul, Int.cast_ofNat_Int, Nat.zero_add, Nat.add_zero, Nat.le_refl, eq_self, ne_eq, reduceCtorEq, or_true, true_or, or_false, false_or, Bool.or_true, Bool.or_false, Bool.true_or, Bool.false_or, Nat.zero_le, Int.le_refl, Int.ofNat_zero, Int.ofNat_one, Bool.false_eq_true]
          simp only [ab_in] at hs ⊢
          (repeat' (first | intro _ | refine And.intro ?_ ?_)) <;> (first | exact a1 | contradiction | omega | (exfalso; omega))
        · have a1 := fun h2 q1 q2 => aft h2 _ (by rw [rtOne, if_neg h6]) q1 (fr.tr q2)
          refine hV (fun p => bif p == 15 then true else p == 60) 80 _ _ _ _ _ _ ?_
          simp only [d, e9, he2, h6, hcv1, hQ1, bI_in, bI_0, bI_1, bI_t, bI_f, bI_01, Tr_X0_comesIn, Tr_X1_rotAt, Tr_J9_min_7cf53, Tr_X1_setRot, ae_aload_n, ae_bipush, ae_goto, ae_iadd, ae_iconst, ae_ifCond, ae_if_icmp, ae_iinc, ae_iload, ae_iload_n, ae_invokestatic, ae_invokevirtual, ae_istore, ae_istore_n, ae_return_, dX1_rotBy_0, dX1_rotBy_1, dX1_rotBy_2, dX1_rotBy_3, dX1_rotBy_5, dX1_rotBy_8, dX1_rotBy_9, dX1_rotBy_11, dX1_rotBy_13, dX1_rotBy_15, dX1_rotBy_17, dX1_rotBy_20, dX1_rotBy_21, dX1_rotBy_22, dX1_rotBy_24, dX1_rotBy_25, dX1_rotBy_27, dX1_rotBy_30, dX1_rotBy_32, dX1_rotBy_34, dX1_rotBy_36, dX1_rotBy_39, dX1_rotBy_40, dX1_rotBy_41, dX1_rotBy_43, dX1_rotBy_44, dX1_rotBy_45, dX1_rotBy_47, dX1_rotBy_50, dX1_rotBy_51, dX1_rotBy_52, dX1_rotBy_54, dX1_rotBy_57, dX1_rotBy_60, dX1_rotBy_63, dX1_rotBy_66, dX1_rotBy_69, dX1_rotBy_72, ca_X1_rotBy_104, ca_X1_rotBy_82, ca_X1_rotBy_110, ca_X1_rotBy_115, ab_wp0, ab_wps, ab_stp, ab_g, ab_st, ab_k2, ab_cl, ab_pop, ab_sz, ab_2, ab_ret, ab_f4, ab_tg, ab_I, ab_II, ab_A, ab_Rf, ab_VR, ab_IR, ab_VIR, ab_1, ab_LL, ab_DD, ab_ob, ab_pr, ab_qr, ab_ln, ab_so, ab_vI, ab_vA, ab_vD, ab_vL, ab_v2, ab_c, ab_fit, ab_rv, ab_tsw, ab_lsw, ab_up_eq, Fin.isValue, ab_f0, ab_f1, ab_f2, ab_f3, List.getElem?_cons_zero, List.getElem?_cons_succ, List.set_cons_zero, List.set_cons_succ, List.length_cons, List.length_nil, List.size_toArray, List.head?_cons, List.tail_cons, Option.map_some, cond_true, cond_false, true_and, and_true, false_and, and_false, not_true_eq_false, not_false_eq_true, true_imp_iff, false_imp_iff, if_true, if_false, ite_true, ite_false, ↓reduceIte, Nat.reduceAdd, Nat.reduceEqDiff, Nat.reduceLeDiff, Nat.reduceLT, Nat.reduceBEq, Nat.reduceBNe, Int.reduceAdd, Int.reduceNeg, Int.reduceSub, Int.reduceLE, Int.reduceLT, Int.reduceToNat, Int.reduceEq, Int.reduceMul, Int.cast_ofNat_Int, Nat.zero_add, Nat.add_zero, Nat.le_refl, eq_self, ne_eq, reduceCtorEq, or_true, true_or, or_false, false_or, Bool.or_true, Bool.or_false, Bool.true_or, Bool.false_or, Nat.zero_le, Int.le_refl, Int.ofNat_zero, Int.ofNat_one, Bool.false_eq_true]
          simp only [ab_in] at hs ⊢
          (repeat' (first | intro _ | refine And.intro ?_ ?_)) <;> (first | exact a1 _ (by assumption) (by assumption) | contradiction | omega | (exfalso; omega))
    have outer : ∀ (n : Nat) (x : Int) (h1 : AH) (S1 : RS) (w u : Option AV), (∃ w' u', w = some (.inl w') ∧ u = some (.inl u')) ∨ (w = none ∧ u = none) → x + n = 12 → 0 ≤ x → ab_roof h1 b = some (ns, S1) → ab_fr h h1 (b :: ns) → rtL f rain n x S1 = rtF S f rain → V 2 [some (.inr (.inl (some b))), some (.inr (.inl (some a))), some (.inl rain), some (.inl x), w, u] [] h1 0 0 := by
      intro n
      induction n with
      | zero =>
        intro x h1 S1 w u hwu hx h0 hQ1 fr he1
        have he : x = 12 := by omega
        subst he
        simp only [rtL] at he1
        rw [← he1] at hK
        have hk3 := hK h1 hQ1 fr
        refine hV (fun p => p == 2) 80 _ _ _ _ _ _ ?_
        simp only [bI_in, bI_0, bI_1, bI_t, bI_f, bI_01, ae_aload_n, ae_bipush, ae_goto, ae_iadd, ae_iconst, ae_ifCond, ae_if_icmp, ae_iinc, ae_iload, ae_iload_n, ae_invokestatic, ae_invokevirtual, ae_istore, ae_istore_n, ae_return_, dX1_rotBy_0, dX1_rotBy_1, dX1_rotBy_2, dX1_rotBy_3, dX1_rotBy_5, dX1_rotBy_8, dX1_rotBy_9, dX1_rotBy_11, dX1_rotBy_13, dX1_rotBy_15, dX1_rotBy_17, dX1_rotBy_20, dX1_rotBy_21, dX1_rotBy_22, dX1_rotBy_24, dX1_rotBy_25, dX1_rotBy_27, dX1_rotBy_30, dX1_rotBy_32, dX1_rotBy_34, dX1_rotBy_36, dX1_rotBy_39, dX1_rotBy_40, dX1_rotBy_41, dX1_rotBy_43, dX1_rotBy_44, dX1_rotBy_45, dX1_rotBy_47, dX1_rotBy_50, dX1_rotBy_51, dX1_rotBy_52, dX1_rotBy_54, dX1_rotBy_57, dX1_rotBy_60, dX1_rotBy_63, dX1_rotBy_66, dX1_rotBy_69, dX1_rotBy_72, ca_X1_rotBy_104, ca_X1_rotBy_82, ca_X1_rotBy_110, ca_X1_rotBy_115, ab_wp0, ab_wps, ab_stp, ab_g, ab_st, ab_k2, ab_cl, ab_pop, ab_sz, ab_2, ab_ret, ab_f4, ab_tg, ab_I, ab_II, ab_A, ab_Rf, ab_VR, ab_IR, ab_VIR, ab_1, ab_LL, ab_DD, ab_ob, ab_pr, ab_qr, ab_ln, ab_so, ab_vI, ab_vA, ab_vD, ab_vL, ab_v2, ab_c, ab_fit, ab_rv, ab_tsw, ab_lsw, ab_up_eq, Fin.isValue, ab_f0, ab_f1, ab_f2, ab_f3, List.getElem?_cons_zero, List.getElem?_cons_succ, List.set_cons_zero, List.set_cons_succ, List.length_cons, List.length_nil, List.size_toArray, List.head?_cons, List.tail_cons, Option.map_some, cond_true, cond_false, true_and, and_true, false_and, and_false, not_true_eq_false, not_false_eq_true, true_imp_iff, false_imp_iff, if_true, if_false, ite_true, ite_false, ↓reduceIte, Nat.reduceAdd, Nat.reduceEqDiff, Nat.reduceLeDiff, Nat.reduceLT, Nat.reduceBEq, Nat.reduceBNe, Int.reduceAdd, Int.reduceNeg, Int.reduceSub, Int.reduceLE, Int.reduceLT, Int.reduceToNat, Int.reduceEq, Int.reduceMul, Int.cast_ofNat_Int, Nat.zero_add, Nat.add_zero, Nat.le_refl, eq_self, ne_eq, reduceCtorEq, or_true, true_or, or_false, false_or, Bool.or_true, Bool.or_false, Bool.true_or, Bool.false_or, Nat.zero_le, Int.le_refl, Int.ofNat_zero, Int.ofNat_one, Bool.false_eq_true]
        simp only [ab_in]
        (repeat' (first | intro _ | refine And.intro ?_ ?_)) <;> (first | exact hk3 | contradiction | omega | (exfalso; omega))
      | succ n ih =>
        intro x h1 S1 w u hwu hx h0 hQ1 fr he1
        have he : ¬ 12 ≤ x := by omega
        simp only [rtL] at he1
        have i1 := inner x h0 (by omega) (rtCol f rain x 8 7 0 S1) (by
          intro h2 w u hQ2 fr2
          have ih1 := ih (x + 1) h2 _ (some (.inl w)) (some (.inl u)) (Or.inl ⟨w, u, rfl, rfl⟩) (by omega) (by omega) hQ2 fr2 he1
          refine hV (fun p => p == 2) 80 _ _ _ _ _ _ ?_
          simp only [bI_in, bI_0, bI_1, bI_t, bI_f, bI_01, ae_aload_n, ae_bipush, ae_goto, ae_iadd, ae_iconst, ae_ifCond, ae_if_icmp, ae_iinc, ae_iload, ae_iload_n, ae_invokestatic, ae_invokevirtual, ae_istore, ae_istore_n, ae_return_, dX1_rotBy_0, dX1_rotBy_1, dX1_rotBy_2, dX1_rotBy_3, dX1_rotBy_5, dX1_rotBy_8, dX1_rotBy_9, dX1_rotBy_11, dX1_rotBy_13, dX1_rotBy_15, dX1_rotBy_17, dX1_rotBy_20, dX1_rotBy_21, dX1_rotBy_22, dX1_rotBy_24, dX1_rotBy_25, dX1_rotBy_27, dX1_rotBy_30, dX1_rotBy_32, dX1_rotBy_34, dX1_rotBy_36, dX1_rotBy_39, dX1_rotBy_40, dX1_rotBy_41, dX1_rotBy_43, dX1_rotBy_44, dX1_rotBy_45, dX1_rotBy_47, dX1_rotBy_50, dX1_rotBy_51, dX1_rotBy_52, dX1_rotBy_54, dX1_rotBy_57, dX1_rotBy_60, dX1_rotBy_63, dX1_rotBy_66, dX1_rotBy_69, dX1_rotBy_72, ca_X1_rotBy_104, ca_X1_rotBy_82, ca_X1_rotBy_110, ca_X1_rotBy_115, ab_wp0, ab_wps, ab_stp, ab_g, ab_st, ab_k2, ab_cl, ab_pop, ab_sz, ab_2, ab_ret, ab_f4, ab_tg, ab_I, ab_II, ab_A, ab_Rf, ab_VR, ab_IR, ab_VIR, ab_1, ab_LL, ab_DD, ab_ob, ab_pr, ab_qr, ab_ln, ab_so, ab_vI, ab_vA, ab_vD, ab_vL, ab_v2, ab_c, ab_fit, ab_rv, ab_tsw, ab_lsw, ab_up_eq, Fin.isValue, ab_f0, ab_f1, ab_f2, ab_f3, List.getElem?_cons_zero, List.getElem?_cons_succ, List.set_cons_zero, List.set_cons_succ, List.length_cons, List.length_nil, List.size_toArray, List.head?_cons, List.tail_cons, Option.map_some, cond_true, cond_false, true_and, and_true, false_and, and_false, not_true_eq_false, not_false_eq_true, true_imp_iff, false_imp_iff, if_true, if_false, ite_true, ite_false, ↓reduceIte, Nat.reduceAdd, Nat.reduceEqDiff, Nat.reduceLeDiff, Nat.reduceLT, Nat.reduceBEq, Nat.reduceBNe, Int.reduceAdd, Int.reduceNeg, Int.reduceSub, Int.reduceLE, Int.reduceLT, Int.reduceToNat, Int.reduceEq, Int.reduceMul, Int.cast_ofNat_Int, Nat.zero_add, Nat.add_zero, Nat.le_refl, eq_self, ne_eq, reduceCtorEq, or_true, true_or, or_false, false_or, Bool.or_true, Bool.or_false, Bool.true_or, Bool.false_or, Nat.zero_le, Int.le_refl, Int.ofNat_zero, Int.ofNat_one, Bool.false_eq_true]
          exact ih1) 8 7 0 h1 S1 (by omega) (by omega) (by omega) hQ1 fr rfl
        rcases hwu with ⟨w', u', rfl, rfl⟩ | ⟨rfl, rfl⟩
        all_goals (refine hV (fun p => bif p == 2 then true else p == 15) 80 _ _ _ _ _ _ ?_; simp only [he, bI_in, bI_0, bI_1, bI_t, bI_f, bI_01, ae_aload_n, ae_bipush, ae_goto, ae_iadd, ae_iconst, ae_ifCond, ae_if_icmp, ae_iinc, ae_iload, ae_iload_n, ae_invokestatic, ae_invokevirtual, ae_istore, ae_istore_n, ae_return_, dX1_rotBy_0, dX1_rotBy_1, dX1_rotBy_2, dX1_rotBy_3, dX1_rotBy_5, dX1_rotBy_8, dX1_rotBy_9, dX1_rotBy_11, dX1_rotBy_13, dX1_rotBy_15, dX1_rotBy_17, dX1_rotBy_20, dX1_rotBy_21, dX1_rotBy_22, dX1_rotBy_24, dX1_rotBy_25, dX1_rotBy_27, dX1_rotBy_30, dX1_rotBy_32, dX1_rotBy_34, dX1_rotBy_36, dX1_rotBy_39, dX1_rotBy_40, dX1_rotBy_41, dX1_rotBy_43, dX1_rotBy_44, dX1_rotBy_45, dX1_rotBy_47, dX1_rotBy_50, dX1_rotBy_51, dX1_rotBy_52, dX1_rotBy_54, dX1_rotBy_57, dX1_rotBy_60, dX1_rotBy_63, dX1_rotBy_66, dX1_rotBy_69, dX1_rotBy_72, ca_X1_rotBy_104, ca_X1_rotBy_82, ca_X1_rotBy_110, ca_X1_rotBy_115, ab_wp0, ab_wps, ab_stp, ab_g, ab_st, ab_k2, ab_cl, ab_pop, ab_sz, ab_2, ab_ret, ab_f4, ab_tg, ab_I, ab_II, ab_A, ab_Rf, ab_VR, ab_IR, ab_VIR, ab_1, ab_LL, ab_DD, ab_ob, ab_pr, ab_qr, ab_ln, ab_so, ab_vI, ab_vA, ab_vD, ab_vL, ab_v2, ab_c, ab_fit, ab_rv, ab_tsw, ab_lsw, ab_up_eq, Fin.isValue, ab_f0, ab_f1, ab_f2, ab_f3, List.getElem?_cons_zero, List.getElem?_cons_succ, List.set_cons_zero, List.set_cons_succ, List.length_cons, List.length_nil, List.size_toArray, List.head?_cons, List.tail_cons, Option.map_some, cond_true, cond_false, true_and, and_true, false_and, and_false, not_true_eq_false, not_false_eq_true, true_imp_iff, false_imp_iff, if_true, if_false, ite_true, ite_false, ↓reduceIte, Nat.reduceAdd, Nat.reduceEqDiff, Nat.reduceLeDiff, Nat.reduceLT, Nat.reduceBEq, Nat.reduceBNe, Int.reduceAdd, Int.reduceNeg, Int.reduceSub, Int.reduceLE, Int.reduceLT, Int.reduceToNat, Int.reduceEq, Int.reduceMul, Int.cast_ofNat_Int, Nat.zero_add, Nat.add_zero, Nat.le_refl, eq_self, ne_eq, reduceCtorEq, or_true, true_or, or_false, false_or, Bool.or_true, Bool.or_false, Bool.true_or, Bool.false_or, Nat.zero_le, Int.le_refl, Int.ofNat_zero, Int.ofNat_one, Bool.false_eq_true]; simp only [ab_in]; (repeat' (first | intro _ | refine And.intro ?_ ?_)) <;> (first | exact i1 | contradiction | omega | (exfalso; omega)))
    have l0 := outer 12 0 h S none none (Or.inr ⟨rfl, rfl⟩) (by omega) (by omega) hQ ab_fr.rf rfl
    refine hV (fun p => p == 2) 80 _ _ _ _ _ _ ?_
    simp only [bI_in, bI_0, bI_1, bI_t, bI_f, bI_01, ae_aload_n, ae_bipush, ae_goto, ae_iadd, ae_iconst, ae_ifCond, ae_if_icmp, ae_iinc, ae_iload, ae_iload_n, ae_invokestatic, ae_invokevirtual, ae_istore, ae_istore_n, ae_return_, dX1_rotBy_0, dX1_rotBy_1, dX1_rotBy_2, dX1_rotBy_3, dX1_rotBy_5, dX1_rotBy_8, dX1_rotBy_9, dX1_rotBy_11, dX1_rotBy_13, dX1_rotBy_15, dX1_rotBy_17, dX1_rotBy_20, dX1_rotBy_21, dX1_rotBy_22, dX1_rotBy_24, dX1_rotBy_25, dX1_rotBy_27, dX1_rotBy_30, dX1_rotBy_32, dX1_rotBy_34, dX1_rotBy_36, dX1_rotBy_39, dX1_rotBy_40, dX1_rotBy_41, dX1_rotBy_43, dX1_rotBy_44, dX1_rotBy_45, dX1_rotBy_47, dX1_rotBy_50, dX1_rotBy_51, dX1_rotBy_52, dX1_rotBy_54, dX1_rotBy_57, dX1_rotBy_60, dX1_rotBy_63, dX1_rotBy_66, dX1_rotBy_69, dX1_rotBy_72, ca_X1_rotBy_104, ca_X1_rotBy_82, ca_X1_rotBy_110, ca_X1_rotBy_115, ab_wp0, ab_wps, ab_stp, ab_g, ab_st, ab_k2, ab_cl, ab_pop, ab_sz, ab_2, ab_ret, ab_f4, ab_tg, ab_I, ab_II, ab_A, ab_Rf, ab_VR, ab_IR, ab_VIR, ab_1, ab_LL, ab_DD, ab_ob, ab_pr, ab_qr, ab_ln, ab_so, ab_vI, ab_vA, ab_vD, ab_vL, ab_v2, ab_c, ab_fit, ab_rv, ab_tsw, ab_lsw, ab_up_eq, Fin.isValue, ab_f0, ab_f1, ab_f2, ab_f3, List.getElem?_cons_zero, List.getElem?_cons_succ, List.set_cons_zero, List.set_cons_succ, List.length_cons, List.length_nil, List.size_toArray, List.head?_cons, List.tail_cons, Option.map_some, cond_true, cond_false, true_and, and_true, false_and, and_false, not_true_eq_false, not_false_eq_true, true_imp_iff, false_imp_iff, if_true, if_false, ite_true, ite_false, ↓reduceIte, Nat.reduceAdd, Nat.reduceEqDiff, Nat.reduceLeDiff, Nat.reduceLT, Nat.reduceBEq, Nat.reduceBNe, Int.reduceAdd, Int.reduceNeg, Int.reduceSub, Int.reduceLE, Int.reduceLT, Int.reduceToNat, Int.reduceEq, Int.reduceMul, Int.cast_ofNat_Int, Nat.zero_add, Nat.add_zero, Nat.le_refl, eq_self, ne_eq, reduceCtorEq, or_true, true_or, or_false, false_or, Bool.or_true, Bool.or_false, Bool.true_or, Bool.false_or, Nat.zero_le, Int.le_refl, Int.ofNat_zero, Int.ofNat_one, Bool.false_eq_true]
    exact l0
  · exact hT.elim
set_option maxRecDepth 100000 in
theorem con_X1_rotBy (l : Launch) (D : va_G) (ty : Nat → ClassId) (base : Nat) : ab_Con l D vwCl ty lw_ts base lw_wd yX1_rotBy cX1_rotBy 6 none 2 45 0 0 Tr_X1_rotBy :=
  ab_con_of (own := RX1) (rt := 0) (tb := tbX1) (ini := false) (ca := ca_X1_rotBy) (by decide +kernel) rfl (fun h => by cases h) rfl lw_wd_ok wtbX1 lw_ar cm_X1_rotBy
    (fun p e R s m args below meth c K hcx => by
      obtain ⟨hx, hb, hml, hown, hF, rfl⟩ := hcx
      exact ab_lk_all (ab_all_c (ab_tc_V hx hb hml hown lw_wd_ok hF ⟨rfl, rfl⟩ (con_X0_comesIn l D ty base) rfl (lw_wi (by decide +kernel) (by decide +kernel)) (lw_wi (by decide +kernel) (by decide +kernel)) (lw_wi (by decide +kernel) (by decide +kernel)) (lw_wi (by decide +kernel) (by decide +kernel)) (lw_wi (by decide +kernel) (by decide +kernel)) (by decide +kernel) ⟨by decide, by decide⟩) (ab_all_c (ab_tc_V hx hb hml hown lw_wd_ok hF ⟨rfl, rfl⟩ (con_X1_rotAt l D ty base) rfl (lw_wi (by decide +kernel) (by decide +kernel)) (lw_wi (by decide +kernel) (by decide +kernel)) (lw_wi (by decide +kernel) (by decide +kernel)) (lw_wi (by decide +kernel) (by decide +kernel)) (lw_wi (by decide +kernel) (by decide +kernel)) (by decide +kernel) ⟨by decide, by decide⟩) (ab_all_c (ab_tc_S hx hb hml hown lw_wd_ok hF ⟨rfl, rfl⟩ (con_J9_min_7cf53 l D ty base) (lw_wi (by decide +kernel) (by decide +kernel)) (lw_wi (by decide +kernel) (by decide +kernel)) (lw_wi (by decide +kernel) (by decide +kernel)) (lw_wi (by decide +kernel) (by decide +kernel)) (by decide +kernel) ⟨by decide, by decide⟩) (ab_all_c (ab_tc_V hx hb hml hown lw_wd_ok hF ⟨rfl, rfl⟩ (con_X1_setRot l D ty base) rfl (lw_wi (by decide +kernel) (by decide +kernel)) (lw_wi (by decide +kernel) (by decide +kernel)) (lw_wi (by decide +kernel) (by decide +kernel)) (lw_wi (by decide +kernel) (by decide +kernel)) (lw_wi (by decide +kernel) (by decide +kernel)) (by decide +kernel) ⟨by decide, by decide⟩) (ab_all_n))))))
    (by intro as h K ht; unfold Tr_X1_rotBy at ht; split at ht <;> first | exact ht.elim | exact Nat.le_of_ble_eq_true rfl) (sem_X1_rotBy base)
