/-! ===== the law's own roof: its questions ===== -/
def meetsF (f : Int → Int) (row from9 wide : Int) : Bool := decide (f 5 = 1 ∧ f 0 = row ∧ f 1 < from9 + wide ∧ from9 < f 1 + f 2)
def uponS (M : SM) (f : Int → Int) : Int := sumR (fun k => bI (meetsF (M.sl k) (f 0 + 1) (f 1) (f 2))) M.n 0
def freeS (M : SM) (row from9 wide : Int) : Bool := allR (fun k => !meetsF (M.sl k) row from9 wide && !meetsF (M.sl k) (row + 1) from9 wide) M.n 0
def atL (M : SM) (x y : Int) : Nat → Int → Int
  | 0, _ => -1
  | n + 1, k => bif meetsF (M.sl k) y x 1 then k else atL M x y n (k + 1)
def atS (M : SM) (x y : Int) : Int := atL M x y M.n 0
def eachL (M : SM) (row : Int) : Nat → Int → Int → Int
  | 0, _, e => e
  | n + 1, x, e => eachL M row n (x + 1) (if 4 < M.rt x row then 2 else e)
def holdS (M : SM) (f : Int → Int) : Int := if f 4 = 1 then Int.tdiv (eachL M (f 0) (f 2).toNat (f 1) 3 * f 3 + 2 * uponS M f) 2 else eachL M (f 0) (f 2).toNat (f 1) 3 * f 3 + 2 * uponS M f
def sideF (o f : Int → Int) (right : Int) : Bool := decide (o 5 = 1 ∧ o 0 = f 0 ∧ (if right = 0 then o 1 + o 2 = f 1 else o 1 = f 1 + f 2))
def liftS (M : SM) (f : Int → Int) (force right : Int) : Int := force + f 0 - 2 * sumR (fun k => bI (sideF (M.sl k) f right)) M.n 0
def covS (M : SM) (x y : Int) : Bool := anyR (fun k => decide (M.sl k 4 = 0) && (meetsF (M.sl k) y x 1 || meetsF (M.sl k) (y + 1) x 1)) M.n 0
def covAllS (M : SM) : Int := sumR (fun x => sumR (fun y => bI (covS M x y)) 8 0) 12 0
def comesS (M : SM) (rain x : Int) : Nat → Int
  | 0 => bif covS M x 7 then 0 else rain
  | d + 1 => bif covS M x (7 - ((d + 1 : Nat) : Int)) then 0 else rain + Int.tdiv (comesS M rain x d) 2
def onS (M : SM) (b : Int) : Int := sumR (fun k => bI (decide (M.sl k 5 = 1) && (decide (b = 0) || decide (M.sl k 4 = 1)))) M.n 0
def rotS (M : SM) : Int := sumR (fun x => sumR (fun y => M.rt x y) 8 0) 12 0
theorem eachL_r {M : SM} {row : Int} : ∀ (n : Nat) (x e : Int), (e = 2 ∨ e = 3) → (eachL M row n x e = 2 ∨ eachL M row n x e = 3) := by
  intro n
  induction n with
  | zero => intro x e he; exact he
  | succ n ih => intro x e he; simp only [eachL]; refine ih _ _ ?_; split <;> omega
theorem comesS_r {M : SM} {rain x : Int} (h : 0 ≤ rain ∧ rain ≤ 9) : ∀ d, 0 ≤ comesS M rain x d ∧ comesS M rain x d ≤ 18 := by
  intro d
  induction d with
  | zero => simp only [comesS]; cases covS M x 7 <;> simp only [cond_true, cond_false] <;> omega
  | succ d ih =>
    simp only [comesS]
    cases covS M x (7 - ((d + 1 : Nat) : Int))
    · simp only [cond_false]; rw [Int.tdiv_eq_ediv_of_nonneg ih.1]; omega
    · simp only [cond_true]; omega
noncomputable def Tr_X4_meets : ATr := fun as h K => match as with
  | [.inr (.inl (some q)), .inl row, .inl from9, .inl wide] => ab_pr (h q) fun t n f => (t = 0 ∧ n = 6 ∧ slB f ∧ (0 ≤ row ∧ row ≤ 8) ∧ (0 ≤ from9 ∧ from9 ≤ 12) ∧ (0 ≤ wide ∧ wide ≤ 4)) ∧ K (some (.inl (bI (meetsF f row from9 wide)))) h
  | _ => False
theorem mo_X4_meets : ab_mo Tr_X4_meets := by
  intro as h K K' hk ht
  unfold Tr_X4_meets at ht ⊢
  split at ht
  · exact ab_pr_mo (fun t n f w => ⟨w.1, hk _ _ w.2⟩) ht
  · exact ht.elim
def ca_X4_meets : Nat → Option ACS := ab_lk []
theorem cm_X4_meets : ∀ i q, ca_X4_meets i = some q → ab_moq i q := ab_lk_all (ab_all_n)
set_option maxRecDepth 100000 in
set_option maxHeartbeats 4000000 in
theorem sem_X4_meets (base : Nat) : ab_Sem tbX4 lw_ts base cX4_meets ca_X4_meets 2 4 0 0 (fun as => ab_en as 4) Tr_X4_meets := by
  intro as h K hT V hV
  unfold Tr_X4_meets at hT
  split at hT
  · rename_i q row from9 wide
    obtain ⟨t, n, f, hc, ⟨rfl, rfl, ⟨b1, b2, b3, b4, b5⟩, h1, h2, h3⟩, hK⟩ := ab_pr_el hT
    show V 0 [some (.inr (.inl (some q))), some (.inl row), some (.inl from9), some (.inl wide)] [] h 0 0
    refine hV (fun _ => false) 80 _ _ _ _ _ _ ?_
    simp only [hc, ae_aload_n, ae_goto, ae_iadd, ae_iaload, ae_iconst, ae_if_icmp, ae_iload_n, ae_ireturn, dX4_meets_0, dX4_meets_1, dX4_meets_2, dX4_meets_3, dX4_meets_4, dX4_meets_7, dX4_meets_8, dX4_meets_9, dX4_meets_10, dX4_meets_11, dX4_meets_14, dX4_meets_15, dX4_meets_16, dX4_meets_17, dX4_meets_18, dX4_meets_19, dX4_meets_20, dX4_meets_23, dX4_meets_24, dX4_meets_25, dX4_meets_26, dX4_meets_27, dX4_meets_28, dX4_meets_29, dX4_meets_30, dX4_meets_31, dX4_meets_34, dX4_meets_35, dX4_meets_38, dX4_meets_39, ab_wp0, ab_wps, ab_stp, ab_g, ab_st, ab_k2, ab_cl, ab_pop, ab_sz, ab_2, ab_ret, ab_f4, ab_tg, ab_I, ab_II, ab_A, ab_Rf, ab_VR, ab_IR, ab_VIR, ab_1, ab_LL, ab_DD, ab_ob, ab_pr, ab_qr, ab_ln, ab_so, ab_vI, ab_vA, ab_vD, ab_vL, ab_v2, ab_c, ab_fit, ab_rv, ab_tsw, ab_lsw, ab_up_eq, Fin.isValue, ab_f0, ab_f1, ab_f2, ab_f3, List.getElem?_cons_zero, List.getElem?_cons_succ, List.set_cons_zero, List.set_cons_succ, List.length_cons, List.length_nil, List.size_toArray, List.head?_cons, List.tail_cons, Option.map_some, cond_true, cond_false, true_and, and_true, false_and, and_false, not_true_eq_false, not_false_eq_true, true_imp_iff, false_imp_iff, if_true, if_false, ite_true, ite_false, ↓reduceIte, Nat.reduceAdd, Nat.reduceEqDiff, Nat.reduceLeDiff, Nat.reduceLT, Nat.reduceBEq, Nat.reduceBNe, Int.reduceAdd, Int.reduceNeg, Int.reduceSub, Int.reduceLE, Int.reduceLT, Int.reduceToNat, Int.reduceEq, Int.reduceMul, Int.cast_ofNat_Int, Nat.zero_add, Nat.add_zero, Nat.le_refl, eq_self, ne_eq, reduceCtorEq, or_true, true_or, or_false, false_or, Bool.or_true, Bool.or_false, Bool.true_or, Bool.false_or, Nat.zero_le, Int.le_refl, Int.ofNat_zero, Int.ofNat_one, Bool.false_eq_true]
    simp only [ab_in]
    by_cases hm : f 5 = 1 ∧ f 0 = row ∧ f 1 < from9 + wide ∧ from9 < f 1 + f 2
    · simp only [meetsF, hm, decide_true, bI_t, and_self] at hK
      (repeat' (first | intro _ | refine And.intro ?_ ?_)) <;> (first | exact hK | contradiction | omega | (exfalso; omega))
    · simp only [meetsF, hm, decide_false, bI_f] at hK
      (repeat' (first | intro _ | refine And.intro ?_ ?_)) <;> (first | exact hK | contradiction | omega | (exfalso; omega))
  · exact hT.elim
set_option maxRecDepth 100000 in
theorem con_X4_meets (l : Launch) (D : va_G) (ty : Nat → ClassId) (base : Nat) : ab_Con l D vwCl ty lw_ts base lw_wd yX4_meets cX4_meets 4 (some .boolean) 0 0 0 0 Tr_X4_meets :=
  ab_con_of (own := RX4) (rt := 2) (tb := tbX4) (ini := false) (ca := ca_X4_meets) (by decide +kernel) rfl (fun h => by cases h) rfl lw_wd_ok wtbX4 lw_ar cm_X4_meets
    (fun p e R s m args below meth c K hcx => by
      obtain ⟨hx, hb, hml, hown, hF, rfl⟩ := hcx
      exact ab_lk_all (ab_all_n))
    (by intro as h K ht; unfold Tr_X4_meets at ht; split at ht <;> first | exact ht.elim | exact Nat.le_of_ble_eq_true rfl) (sem_X4_meets base)
noncomputable def Tr_X4_upon : ATr := fun as h K => match as with
  | [.inr (.inl (some a)), .inr (.inl (some q))] => ab_so (ab_sim h a) fun P => ab_pr (h q) fun t n f => (t = 0 ∧ n = 6 ∧ slB f) ∧ K (some (.inl (uponS P.2 f))) h
  | _ => False
theorem mo_X4_upon : ab_mo Tr_X4_upon := by
  intro as h K K' hk ht
  unfold Tr_X4_upon at ht ⊢
  split at ht
  · exact ab_so_mo (fun _ q => ab_pr_mo (fun t n f w => ⟨w.1, hk _ _ w.2⟩) q) ht
  · exact ht.elim
def ca_X4_upon : Nat → Option ACS := ab_lk [(31, (2, 0, 4, 0, 0, Tr_X4_meets))]
theorem ca_X4_upon_31 : ca_X4_upon 31 = some (2, 0, 4, 0, 0, Tr_X4_meets) := rfl
theorem cm_X4_upon : ∀ i q, ca_X4_upon i = some q → ab_moq i q := ab_lk_all (ab_all_c mo_X4_meets (ab_all_n))
set_option maxRecDepth 100000 in
set_option maxHeartbeats 4000000 in
theorem sem_X4_upon (base : Nat) : ab_Sem tbX4 lw_ts base cX4_upon ca_X4_upon 1 7 0 0 (fun as => ab_en as 7) Tr_X4_upon := by
  intro as h K hT V hV
  unfold Tr_X4_upon at hT
  split at hT
  · rename_i a q
    obtain ⟨⟨⟨sA, fS, rA, fR, dA, fD⟩, M⟩, hP, hT2⟩ := ab_so_el hT
    have hA := sim_el hP
    obtain ⟨mb, D, nd, D0, D1, D2, r0, r1, r2⟩ := id hA
    obtain ⟨mb1, mb2, mb3, mb4, mb5, mb6⟩ := id mb
    dsimp only at D D0 D1 D2 r0 r1 r2 mb1 mb2 mb3 mb4 mb5 mb6
    obtain ⟨t, n0, f, hc, ⟨rfl, rfl, hB⟩, hK⟩ := ab_pr_el hT2
    obtain ⟨b1, b2, b3, b4, b5⟩ := id hB
    show V 0 [some (.inr (.inl (some a))), some (.inr (.inl (some q))), none, none, none, none, none] [] h 0 0
    have loop : ∀ (m : Nat) (x acc : Int) (w : Option AV), x + m = M.n → 0 ≤ x → (0 ≤ acc ∧ acc ≤ x) → acc + sumR (fun k => bI (meetsF (M.sl k) (f 0 + 1) (f 1) (f 2))) m x = uponS M f → V 14 [some (.inr (.inl (some a))), some (.inr (.inl (some q))), some (.inl acc), some (.inr (.inl (some sA))), some (.inl (M.n : Int)), some (.inl x), w] [] h 0 0 := by
      intro m
      induction m with
      | zero =>
        intro x acc w hx h0 ha he
        have hk2 : K (some (.inl acc)) h := by rw [← he] at hK; simpa [sumR] using hK
        have hle : (M.n : Int) ≤ x := by omega
        refine hV (fun p => p == 14) 80 _ _ _ _ _ _ ?_
        simp only [hle, bI_in, bI_0, bI_1, bI_t, bI_f, bI_01, ae_aaload, ae_aload, ae_aload_n, ae_astore, ae_goto, ae_iadd, ae_iaload, ae_iconst, ae_ifCond, ae_if_icmp, ae_iinc, ae_iload, ae_iload_n, ae_invokestatic, ae_ireturn, ae_istore_n, dX4_upon_14, dX4_upon_16, dX4_upon_18, dX4_upon_21, dX4_upon_22, dX4_upon_24, dX4_upon_25, dX4_upon_27, dX4_upon_28, dX4_upon_30, dX4_upon_31, dX4_upon_32, dX4_upon_33, dX4_upon_34, dX4_upon_35, dX4_upon_36, dX4_upon_37, dX4_upon_38, dX4_upon_39, dX4_upon_40, dX4_upon_41, dX4_upon_44, dX4_upon_47, dX4_upon_48, dX4_upon_51, dX4_upon_52, dX4_upon_53, dX4_upon_54, dX4_upon_57, dX4_upon_60, dX4_upon_61, ca_X4_upon_31, ab_wp0, ab_wps, ab_stp, ab_g, ab_st, ab_k2, ab_cl, ab_pop, ab_sz, ab_2, ab_ret, ab_f4, ab_tg, ab_I, ab_II, ab_A, ab_Rf, ab_VR, ab_IR, ab_VIR, ab_1, ab_LL, ab_DD, ab_ob, ab_pr, ab_qr, ab_ln, ab_so, ab_vI, ab_vA, ab_vD, ab_vL, ab_v2, ab_c, ab_fit, ab_rv, ab_tsw, ab_lsw, ab_up_eq, Fin.isValue, ab_f0, ab_f1, ab_f2, ab_f3, List.getElem?_cons_zero, List.getElem?_cons_succ, List.set_cons_zero, List.set_cons_succ, List.length_cons, List.length_nil, List.size_toArray, List.head?_cons, List.tail_cons, Option.map_some, cond_true, cond_false, true_and, and_true, false_and, and_false, not_true_eq_false, not_false_eq_true, true_imp_iff, false_imp_iff, if_true, if_false, ite_true, ite_false, ↓reduceIte, Nat.reduceAdd, Nat.reduceEqDiff, Nat.reduceLeDiff, Nat.reduceLT, Nat.reduceBEq, Nat.reduceBNe, Int.reduceAdd, Int.reduceNeg, Int.reduceSub, Int.reduceLE, Int.reduceLT, Int.reduceToNat, Int.reduceEq, Int.reduceMul, Int.cast_ofNat_Int, Nat.zero_add, Nat.add_zero, Nat.le_refl, eq_self, ne_eq, reduceCtorEq, or_true, true_or, or_false, false_or, Bool.or_true, Bool.or_false, Bool.true_or, Bool.false_or, Nat.zero_le, Int.le_refl, Int.ofNat_zero, Int.ofNat_one, Bool.false_eq_true]
        try simp only [ab_in]
        (repeat' (first | intro _ | refine And.intro ?_ ?_)) <;> (first | exact hk2 | contradiction | omega | (exfalso; omega))
      | succ m ih =>
        intro x acc w hx h0 ha he
        have hlt : ¬ (M.n : Int) ≤ x := by omega
        obtain ⟨p, hp, hpc⟩ := r0.1 x h0 (by omega)
        have hsl := mb1 x
        obtain ⟨c1, c2, c3, c4, c5⟩ := id hsl
        simp only [sumR] at he
        cases hm : meetsF (M.sl x) (f 0 + 1) (f 1) (f 2)
        · rw [hm, bI_f] at he
          have ih1 := ih (x + 1) (acc + 0) (some (.inr (.inl (some p)))) (by omega) (by omega) (by omega) (by omega)
          refine hV (fun p => p == 14) 80 _ _ _ _ _ _ ?_
          simp only [hlt, D0, hp, hpc, hc, hm, bI_in, bI_0, bI_1, bI_t, bI_f, bI_01, Tr_X4_meets, ae_aaload, ae_aload, ae_aload_n, ae_astore, ae_goto, ae_iadd, ae_iaload, ae_iconst, ae_ifCond, ae_if_icmp, ae_iinc, ae_iload, ae_iload_n, ae_invokestatic, ae_ireturn, ae_istore_n, dX4_upon_14, dX4_upon_16, dX4_upon_18, dX4_upon_21, dX4_upon_22, dX4_upon_24, dX4_upon_25, dX4_upon_27, dX4_upon_28, dX4_upon_30, dX4_upon_31, dX4_upon_32, dX4_upon_33, dX4_upon_34, dX4_upon_35, dX4_upon_36, dX4_upon_37, dX4_upon_38, dX4_upon_39, dX4_upon_40, dX4_upon_41, dX4_upon_44, dX4_upon_47, dX4_upon_48, dX4_upon_51, dX4_upon_52, dX4_upon_53, dX4_upon_54, dX4_upon_57, dX4_upon_60, dX4_upon_61, ca_X4_upon_31, ab_wp0, ab_wps, ab_stp, ab_g, ab_st, ab_k2, ab_cl, ab_pop, ab_sz, ab_2, ab_ret, ab_f4, ab_tg, ab_I, ab_II, ab_A, ab_Rf, ab_VR, ab_IR, ab_VIR, ab_1, ab_LL, ab_DD, ab_ob, ab_pr, ab_qr, ab_ln, ab_so, ab_vI, ab_vA, ab_vD, ab_vL, ab_v2, ab_c, ab_fit, ab_rv, ab_tsw, ab_lsw, ab_up_eq, Fin.isValue, ab_f0, ab_f1, ab_f2, ab_f3, List.getElem?_cons_zero, List.getElem?_cons_succ, List.set_cons_zero, List.set_cons_succ, List.length_cons, List.length_nil, List.size_toArray, List.head?_cons, List.tail_cons, Option.map_some, cond_true, cond_false, true_and, and_true, false_and, and_false, not_true_eq_false, not_false_eq_true, true_imp_iff, false_imp_iff, if_true, if_false, ite_true, ite_false, ↓reduceIte, Nat.reduceAdd, Nat.reduceEqDiff, Nat.reduceLeDiff, Nat.reduceLT, Nat.reduceBEq, Nat.reduceBNe, Int.reduceAdd, Int.reduceNeg, Int.reduceSub, Int.reduceLE, Int.reduceLT, Int.reduceToNat, Int.reduceEq, Int.reduceMul, Int.cast_ofNat_Int, Nat.zero_add, Nat.add_zero, Nat.le_refl, eq_self, ne_eq, reduceCtorEq, or_true, true_or, or_false, false_or, Bool.or_true, Bool.or_false, Bool.true_or, Bool.false_or, Nat.zero_le, Int.le_refl, Int.ofNat_zero, Int.ofNat_one, Bool.false_eq_true]
          try simp only [ab_in]
          (repeat' (first | intro _ | refine And.intro ?_ ?_)) <;> (first | exact ih1 | exact hsl | exact rfl | contradiction | omega | (exfalso; omega))
        · rw [hm, bI_t] at he
          have ih1 := ih (x + 1) (acc + 1) (some (.inr (.inl (some p)))) (by omega) (by omega) (by omega) (by omega)
          refine hV (fun p => p == 14) 80 _ _ _ _ _ _ ?_
          simp only [hlt, D0, hp, hpc, hc, hm, bI_in, bI_0, bI_1, bI_t, bI_f, bI_01, Tr_X4_meets, ae_aaload, ae_aload, ae_aload_n, ae_astore, ae_goto, ae_iadd, ae_iaload, ae_iconst, ae_ifCond, ae_if_icmp, ae_iinc, ae_iload, ae_iload_n, ae_invokestatic, ae_ireturn, ae_istore_n, dX4_upon_14, dX4_upon_16, dX4_upon_18, dX4_upon_21, dX4_upon_22, dX4_upon_24, dX4_upon_25, dX4_upon_27, dX4_upon_28, dX4_upon_30, dX4_upon_31, dX4_upon_32, dX4_upon_33, dX4_upon_34, dX4_upon_35, dX4_upon_36, dX4_upon_37, dX4_upon_38, dX4_upon_39, dX4_upon_40, dX4_upon_41, dX4_upon_44, dX4_upon_47, dX4_upon_48, dX4_upon_51, dX4_upon_52, dX4_upon_53, dX4_upon_54, dX4_upon_57, dX4_upon_60, dX4_upon_61, ca_X4_upon_31, ab_wp0, ab_wps, ab_stp, ab_g, ab_st, ab_k2, ab_cl, ab_pop, ab_sz, ab_2, ab_ret, ab_f4, ab_tg, ab_I, ab_II, ab_A, ab_Rf, ab_VR, ab_IR, ab_VIR, ab_1, ab_LL, ab_DD, ab_ob, ab_pr, ab_qr, ab_ln, ab_so, ab_vI, ab_vA, ab_vD, ab_vL, ab_v2, ab_c, ab_fit, ab_rv, ab_tsw, ab_lsw, ab_up_eq, Fin.isValue, ab_f0, ab_f1, ab_f2, ab_f3, List.getElem?_cons_zero, List.getElem?_cons_succ, List.set_cons_zero, List.set_cons_succ, List.length_cons, List.length_nil, List.size_toArray, List.head?_cons, List.tail_cons, Option.map_some, cond_true, cond_false, true_and, and_true, false_and, and_false, not_true_eq_false, not_false_eq_true, true_imp_iff, false_imp_iff, if_true, if_false, ite_true, ite_false, ↓reduceIte, Nat.reduceAdd, Nat.reduceEqDiff, Nat.reduceLeDiff, Nat.reduceLT, Nat.reduceBEq, Nat.reduceBNe, Int.reduceAdd, Int.reduceNeg, Int.reduceSub, Int.reduceLE, Int.reduceLT, Int.reduceToNat, Int.reduceEq, Int.reduceMul, Int.cast_ofNat_Int, Nat.zero_add, Nat.add_zero, Nat.le_refl, eq_self, ne_eq, reduceCtorEq, or_true, true_or, or_false, false_or, Bool.or_true, Bool.or_false, Bool.true_or, Bool.false_or, Nat.zero_le, Int.le_refl, Int.ofNat_zero, Int.ofNat_one, Bool.false_eq_true]
          try simp only [ab_in]
          (repeat' (first | intro _ | refine And.intro ?_ ?_)) <;> (first | exact ih1 | exact hsl | exact rfl | contradiction | omega | (exfalso; omega))
    have l0 := loop M.n 0 0 none (by omega) (by omega) (by omega) (by rw [Int.zero_add]; rfl)
    refine hV (fun p => p == 14) 80 _ _ _ _ _ _ ?_
    simp only [D, D0, bI_in, bI_0, bI_1, bI_t, bI_f, bI_01, ae_aload_n, ae_arraylength, ae_astore_n, ae_getfield, ae_iconst, ae_istore, ae_istore_n, dX4_upon_0, dX4_upon_1, dX4_upon_2, dX4_upon_3, dX4_upon_6, dX4_upon_7, dX4_upon_8, dX4_upon_9, dX4_upon_11, dX4_upon_12, tbX4_g9, ca_X4_upon_31, ab_wp0, ab_wps, ab_stp, ab_g, ab_st, ab_k2, ab_cl, ab_pop, ab_sz, ab_2, ab_ret, ab_f4, ab_tg, ab_I, ab_II, ab_A, ab_Rf, ab_VR, ab_IR, ab_VIR, ab_1, ab_LL, ab_DD, ab_ob, ab_pr, ab_qr, ab_ln, ab_so, ab_vI, ab_vA, ab_vD, ab_vL, ab_v2, ab_c, ab_fit, ab_rv, ab_tsw, ab_lsw, ab_up_eq, Fin.isValue, ab_f0, ab_f1, ab_f2, ab_f3, List.getElem?_cons_zero, List.getElem?_cons_succ, List.set_cons_zero, List.set_cons_succ, List.length_cons, List.length_nil, List.size_toArray, List.head?_cons, List.tail_cons, Option.map_some, cond_true, cond_false, true_and, and_true, false_and, and_false, not_true_eq_false, not_false_eq_true, true_imp_iff, false_imp_iff, if_true, if_false, ite_true, ite_false, ↓reduceIte, Nat.reduceAdd, Nat.reduceEqDiff, Nat.reduceLeDiff, Nat.reduceLT, Nat.reduceBEq, Nat.reduceBNe, Int.reduceAdd, Int.reduceNeg, Int.reduceSub, Int.reduceLE, Int.reduceLT, Int.reduceToNat, Int.reduceEq, Int.reduceMul, Int.cast_ofNat_Int, Nat.zero_add, Nat.add_zero, Nat.le_refl, eq_self, ne_eq, reduceCtorEq, or_true, true_or, or_false, false_or, Bool.or_true, Bool.or_false, Bool.true_or, Bool.false_or, Nat.zero_le, Int.le_refl, Int.ofNat_zero, Int.ofNat_one, Bool.false_eq_true]
    try simp only [ab_in]
    (repeat' (first | intro _ | refine And.intro ?_ ?_)) <;> (first | exact l0 | contradiction | omega | (exfalso; omega))
  · exact hT.elim
set_option maxRecDepth 100000 in
theorem con_X4_upon (l : Launch) (D : va_G) (ty : Nat → ClassId) (base : Nat) : ab_Con l D vwCl ty lw_ts base lw_wd yX4_upon cX4_upon 7 (some .int) 1 23 0 0 Tr_X4_upon :=
  ab_con_of (own := RX4) (rt := 1) (tb := tbX4) (ini := false) (ca := ca_X4_upon) (by decide +kernel) rfl (fun h => by cases h) rfl lw_wd_ok wtbX4 lw_ar cm_X4_upon
    (fun p e R s m args below meth c K hcx => by
      obtain ⟨hx, hb, hml, hown, hF, rfl⟩ := hcx
      exact ab_lk_all (ab_all_c (ab_tc_S hx hb hml hown lw_wd_ok hF ⟨rfl, rfl⟩ (con_X4_meets l D ty base) (lw_wi (by decide +kernel) (by decide +kernel)) (lw_wi (by decide +kernel) (by decide +kernel)) (lw_wi (by decide +kernel) (by decide +kernel)) (lw_wi (by decide +kernel) (by decide +kernel)) (by decide +kernel) ⟨by decide, by decide⟩) (ab_all_n)))
    (by intro as h K ht; unfold Tr_X4_upon at ht; split at ht <;> first | exact ht.elim | exact Nat.le_of_ble_eq_true rfl) (sem_X4_upon base)
noncomputable def Tr_X4_isFree : ATr := fun as h K => match as with
  | [.inr (.inl (some a)), .inl row, .inl from9, .inl wide] => ab_so (ab_sim h a) fun P => ((0 ≤ row ∧ row ≤ 7) ∧ (0 ≤ from9 ∧ from9 ≤ 12) ∧ (0 ≤ wide ∧ wide ≤ 4)) ∧ K (some (.inl (bI (freeS P.2 row from9 wide)))) h
  | _ => False
theorem mo_X4_isFree : ab_mo Tr_X4_isFree := by
  intro as h K K' hk ht
  unfold Tr_X4_isFree at ht ⊢
  split at ht
  · exact ab_so_mo (fun _ q => ⟨q.1, hk _ _ q.2⟩) ht
  · exact ht.elim
def ca_X4_isFree : Nat → Option ACS := ab_lk [(31, (2, 0, 4, 0, 0, Tr_X4_meets))]
theorem ca_X4_isFree_31 : ca_X4_isFree 31 = some (2, 0, 4, 0, 0, Tr_X4_meets) := rfl
theorem cm_X4_isFree : ∀ i q, ca_X4_isFree i = some q → ab_moq i q := ab_lk_all (ab_all_c mo_X4_meets (ab_all_n))
set_option maxRecDepth 100000 in
set_option maxHeartbeats 4000000 in
theorem sem_X4_isFree (base : Nat) : ab_Sem tbX4 lw_ts base cX4_isFree ca_X4_isFree 2 8 0 0 (fun as => ab_en as 8) Tr_X4_isFree := by
  intro as h K hT V hV
  unfold Tr_X4_isFree at hT
  split at hT
  · rename_i a row from9 wide
    obtain ⟨⟨⟨sA, fS, rA, fR, dA, fD⟩, M⟩, hP, hT2⟩ := ab_so_el hT
    have hA := sim_el hP
    obtain ⟨mb, D, nd, D0, D1, D2, r0, r1, r2⟩ := id hA
    obtain ⟨mb1, mb2, mb3, mb4, mb5, mb6⟩ := id mb
    dsimp only at D D0 D1 D2 r0 r1 r2 mb1 mb2 mb3 mb4 mb5 mb6
    obtain ⟨hs, hK⟩ := hT2
    show V 0 [some (.inr (.inl (some a))), some (.inl row), some (.inl from9), some (.inl wide), none, none, none, none] [] h 0 0
    have loop : ∀ (m : Nat) (x : Int) (w : Option AV), x + m = M.n → 0 ≤ x → K (some (.inl (bI (allR (fun k => !meetsF (M.sl k) row from9 wide && !meetsF (M.sl k) (row + 1) from9 wide) m x)))) h → V 14 [some (.inr (.inl (some a))), some (.inl row), some (.inl from9), some (.inl wide), some (.inr (.inl (some sA))), some (.inl (M.n : Int)), some (.inl x), w] [] h 0 0 := by
      intro m
      induction m with
      | zero =>
        intro x w hx h0 hk2
        have hle : (M.n : Int) ≤ x := by omega
        simp only [allR, bI_t] at hk2
        refine hV (fun p => p == 14) 80 _ _ _ _ _ _ ?_
        simp only [hle, bI_in, bI_0, bI_1, bI_t, bI_f, bI_01, ae_aaload, ae_aload, ae_astore, ae_goto, ae_iadd, ae_iconst, ae_ifCond, ae_if_icmp, ae_iinc, ae_iload, ae_iload_n, ae_invokestatic, ae_ireturn, dX4_isFree_14, dX4_isFree_16, dX4_isFree_18, dX4_isFree_21, dX4_isFree_23, dX4_isFree_25, dX4_isFree_26, dX4_isFree_28, dX4_isFree_30, dX4_isFree_31, dX4_isFree_32, dX4_isFree_33, dX4_isFree_36, dX4_isFree_39, dX4_isFree_41, dX4_isFree_42, dX4_isFree_43, dX4_isFree_44, dX4_isFree_45, dX4_isFree_46, dX4_isFree_49, dX4_isFree_52, dX4_isFree_53, dX4_isFree_54, dX4_isFree_57, dX4_isFree_60, dX4_isFree_61, ca_X4_isFree_31, ab_wp0, ab_wps, ab_stp, ab_g, ab_st, ab_k2, ab_cl, ab_pop, ab_sz, ab_2, ab_ret, ab_f4, ab_tg, ab_I, ab_II, ab_A, ab_Rf, ab_VR, ab_IR, ab_VIR, ab_1, ab_LL, ab_DD, ab_ob, ab_pr, ab_qr, ab_ln, ab_so, ab_vI, ab_vA, ab_vD, ab_vL, ab_v2, ab_c, ab_fit, ab_rv, ab_tsw, ab_lsw, ab_up_eq, Fin.isValue, ab_f0, ab_f1, ab_f2, ab_f3, List.getElem?_cons_zero, List.getElem?_cons_succ, List.set_cons_zero, List.set_cons_succ, List.length_cons, List.length_nil, List.size_toArray, List.head?_cons, List.tail_cons, Option.map_some, cond_true, cond_false, true_and, and_true, false_and, and_false, not_true_eq_false, not_false_eq_true, true_imp_iff, false_imp_iff, if_true, if_false, ite_true, ite_false, ↓reduceIte, Nat.reduceAdd, Nat.reduceEqDiff, Nat.reduceLeDiff, Nat.reduceLT, Nat.reduceBEq, Nat.reduceBNe, Int.reduceAdd, Int.reduceNeg, Int.reduceSub, Int.reduceLE, Int.reduceLT, Int.reduceToNat, Int.reduceEq, Int.reduceMul, Int.cast_ofNat_Int, Nat.zero_add, Nat.add_zero, Nat.le_refl, eq_self, ne_eq, reduceCtorEq, or_true, true_or, or_false, false_or, Bool.or_true, Bool.or_false, Bool.true_or, Bool.false_or, Nat.zero_le, Int.le_refl, Int.ofNat_zero, Int.ofNat_one, Bool.false_eq_true]
        try simp only [ab_in]
        (repeat' (first | intro _ | refine And.intro ?_ ?_)) <;> (first | exact hk2 | contradiction | omega | (exfalso; omega))
      | succ m ih =>
        intro x w hx h0 hk2
        have hlt : ¬ (M.n : Int) ≤ x := by omega
        obtain ⟨p, hp, hpc⟩ := r0.1 x h0 (by omega)
        have hsl := mb1 x
        obtain ⟨c1, c2, c3, c4, c5⟩ := id hsl
        simp only [allR] at hk2
        cases hm : meetsF (M.sl x) row from9 wide
        · cases hm2 : meetsF (M.sl x) (row + 1) from9 wide
          · simp only [hm, hm2, Bool.not_false, Bool.and_self, Bool.true_and] at hk2
            have ih1 := ih (x + 1) (some (.inr (.inl (some p)))) (by omega) (by omega) hk2
            refine hV (fun p => p == 14) 80 _ _ _ _ _ _ ?_
            simp only [hlt, D0, hp, hpc, hm, hm2, bI_in, bI_0, bI_1, bI_t, bI_f, bI_01, Tr_X4_meets, ae_aaload, ae_aload, ae_astore, ae_goto, ae_iadd, ae_iconst, ae_ifCond, ae_if_icmp, ae_iinc, ae_iload, ae_iload_n, ae_invokestatic, ae_ireturn, dX4_isFree_14, dX4_isFree_16, dX4_isFree_18, dX4_isFree_21, dX4_isFree_23, dX4_isFree_25, dX4_isFree_26, dX4_isFree_28, dX4_isFree_30, dX4_isFree_31, dX4_isFree_32, dX4_isFree_33, dX4_isFree_36, dX4_isFree_39, dX4_isFree_41, dX4_isFree_42, dX4_isFree_43, dX4_isFree_44, dX4_isFree_45, dX4_isFree_46, dX4_isFree_49, dX4_isFree_52, dX4_isFree_53, dX4_isFree_54, dX4_isFree_57, dX4_isFree_60, dX4_isFree_61, ca_X4_isFree_31, ab_wp0, ab_wps, ab_stp, ab_g, ab_st, ab_k2, ab_cl, ab_pop, ab_sz, ab_2, ab_ret, ab_f4, ab_tg, ab_I, ab_II, ab_A, ab_Rf, ab_VR, ab_IR, ab_VIR, ab_1, ab_LL, ab_DD, ab_ob, ab_pr, ab_qr, ab_ln, ab_so, ab_vI, ab_vA, ab_vD, ab_vL, ab_v2, ab_c, ab_fit, ab_rv, ab_tsw, ab_lsw, ab_up_eq, Fin.isValue, ab_f0, ab_f1, ab_f2, ab_f3, List.getElem?_cons_zero, List.getElem?_cons_succ, List.set_cons_zero, List.set_cons_succ, List.length_cons, List.length_nil, List.size_toArray, List.head?_cons, List.tail_cons, Option.map_some, cond_true, cond_false, true_and, and_true, false_and, and_false, not_true_eq_false, not_false_eq_true, true_imp_iff, false_imp_iff, if_true, if_false, ite_true, ite_false, ↓reduceIte, Nat.reduceAdd, Nat.reduceEqDiff, Nat.reduceLeDiff, Nat.reduceLT, Nat.reduceBEq, Nat.reduceBNe, Int.reduceAdd, Int.reduceNeg, Int.reduceSub, Int.reduceLE, Int.reduceLT, Int.reduceToNat, Int.reduceEq, Int.reduceMul, Int.cast_ofNat_Int, Nat.zero_add, Nat.add_zero, Nat.le_refl, eq_self, ne_eq, reduceCtorEq, or_true, true_or, or_false, false_or, Bool.or_true, Bool.or_false, Bool.true_or, Bool.false_or, Nat.zero_le, Int.le_refl, Int.ofNat_zero, Int.ofNat_one, Bool.false_eq_true]
            try simp only [ab_in]
            (repeat' (first | intro _ | refine And.intro ?_ ?_)) <;> (first | exact ih1 | exact hsl | exact rfl | contradiction | omega | (exfalso; omega))
          · simp only [hm, hm2, Bool.not_false, Bool.not_true, Bool.and_false, Bool.false_and, bI_f] at hk2
            refine hV (fun p => p == 14) 80 _ _ _ _ _ _ ?_
            simp only [hlt, D0, hp, hpc, hm, hm2, bI_in, bI_0, bI_1, bI_t, bI_f, bI_01, Tr_X4_meets, ae_aaload, ae_aload, ae_astore, ae_goto, ae_iadd, ae_iconst, ae_ifCond, ae_if_icmp, ae_iinc, ae_iload, ae_iload_n, ae_invokestatic, ae_ireturn, dX4_isFree_14, dX4_isFree_16, dX4_isFree_18, dX4_isFree_21, dX4_isFree_23, dX4_isFree_25, dX4_isFree_26, dX4_isFree_28, dX4_isFree_30, dX4_isFree_31, dX4_isFree_32, dX4_isFree_33, dX4_isFree_36, dX4_isFree_39, dX4_isFree_41, dX4_isFree_42, dX4_isFree_43, dX4_isFree_44, dX4_isFree_45, dX4_isFree_46, dX4_isFree_49, dX4_isFree_52, dX4_isFree_53, dX4_isFree_54, dX4_isFree_57, dX4_isFree_60, dX4_isFree_61, ca_X4_isFree_31, ab_wp0, ab_wps, ab_stp, ab_g, ab_st, ab_k2, ab_cl, ab_pop, ab_sz, ab_2, ab_ret, ab_f4, ab_tg, ab_I, ab_II, ab_A, ab_Rf, ab_VR, ab_IR, ab_VIR, ab_1, ab_LL, ab_DD, ab_ob, ab_pr, ab_qr, ab_ln, ab_so, ab_vI, ab_vA, ab_vD, ab_vL, ab_v2, ab_c, ab_fit, ab_rv, ab_tsw, ab_lsw, ab_up_eq, Fin.isValue, ab_f0, ab_f1, ab_f2, ab_f3, List.getElem?_cons_zero, List.getElem?_cons_succ, List.set_cons_zero, List.set_cons_succ, List.length_cons, List.length_nil, List.size_toArray, List.head?_cons, List.tail_cons, Option.map_some, cond_true, cond_false, true_and, and_true, false_and, and_false, not_true_eq_false, not_false_eq_true, true_imp_iff, false_imp_iff, if_true, if_false, ite_true, ite_false, ↓reduceIte, Nat.reduceAdd, Nat.reduceEqDiff, Nat.reduceLeDiff, Nat.reduceLT, Nat.reduceBEq, Nat.reduceBNe, Int.reduceAdd, Int.reduceNeg, Int.reduceSub, Int.reduceLE, Int.reduceLT, Int.reduceToNat, Int.reduceEq, Int.reduceMul, Int.cast_ofNat_Int, Nat.zero_add, Nat.add_zero, Nat.le_refl, eq_self, ne_eq, reduceCtorEq, or_true, true_or, or_false, false_or, Bool.or_true, Bool.or_false, Bool.true_or, Bool.false_or, Nat.zero_le, Int.le_refl, Int.ofNat_zero, Int.ofNat_one, Bool.false_eq_true]
            try simp only [ab_in]
            (repeat' (first | intro _ | refine And.intro ?_ ?_)) <;> (first | exact hk2 | exact hsl | exact rfl | contradiction | omega | (exfalso; omega))
        · simp only [hm, Bool.not_true, Bool.false_and, bI_f] at hk2
          refine hV (fun p => p == 14) 80 _ _ _ _ _ _ ?_
          simp only [hlt, D0, hp, hpc, hm, bI_in, bI_0, bI_1, bI_t, bI_f, bI_01, Tr_X4_meets, ae_aaload, ae_aload, ae_astore, ae_goto, ae_iadd, ae_iconst, ae_ifCond, ae_if_icmp, ae_iinc, ae_iload, ae_iload_n, ae_invokestatic, ae_ireturn, dX4_isFree_14, dX4_isFree_16, dX4_isFree_18, dX4_isFree_21, dX4_isFree_23, dX4_isFree_25, dX4_isFree_26, dX4_isFree_28, dX4_isFree_30, dX4_isFree_31, dX4_isFree_32, dX4_isFree_33, dX4_isFree_36, dX4_isFree_39, dX4_isFree_41, dX4_isFree_42, dX4_isFree_43, dX4_isFree_44, dX4_isFree_45, dX4_isFree_46, dX4_isFree_49, dX4_isFree_52, dX4_isFree_53, dX4_isFree_54, dX4_isFree_57, dX4_isFree_60, dX4_isFree_61, ca_X4_isFree_31, ab_wp0, ab_wps, ab_stp, ab_g, ab_st, ab_k2, ab_cl, ab_pop, ab_sz, ab_2, ab_ret, ab_f4, ab_tg, ab_I, ab_II, ab_A, ab_Rf, ab_VR, ab_IR, ab_VIR, ab_1, ab_LL, ab_DD, ab_ob, ab_pr, ab_qr, ab_ln, ab_so, ab_vI, ab_vA, ab_vD, ab_vL, ab_v2, ab_c, ab_fit, ab_rv, ab_tsw, ab_lsw, ab_up_eq, Fin.isValue, ab_f0, ab_f1, ab_f2, ab_f3, List.getElem?_cons_zero, List.getElem?_cons_succ, List.set_cons_zero, List.set_cons_succ, List.length_cons, List.length_nil, List.size_toArray, List.head?_cons, List.tail_cons, Option.map_some, cond_true, cond_false, true_and, and_true, false_and, and_false, not_true_eq_false, not_false_eq_true, true_imp_iff, false_imp_iff, if_true, if_false, ite_true, ite_false, ↓reduceIte, Nat.reduceAdd, Nat.reduceEqDiff, Nat.reduceLeDiff, Nat.reduceLT, Nat.reduceBEq, Nat.reduceBNe, Int.reduceAdd, Int.reduceNeg, Int.reduceSub, Int.reduceLE, Int.reduceLT, Int.reduceToNat, Int.reduceEq, Int.reduceMul, Int.cast_ofNat_Int, Nat.zero_add, Nat.add_zero, Nat.le_refl, eq_self, ne_eq, reduceCtorEq, or_true, true_or, or_false, false_or, Bool.or_true, Bool.or_false, Bool.true_or, Bool.false_or, Nat.zero_le, Int.le_refl, Int.ofNat_zero, Int.ofNat_one, Bool.false_eq_true]
          try simp only [ab_in]
          (repeat' (first | intro _ | refine And.intro ?_ ?_)) <;> (first | exact hk2 | exact hsl | exact rfl | contradiction | omega | (exfalso; omega))
    have l0 := loop M.n 0 none (by omega) (by omega) hK
    refine hV (fun p => p == 14) 80 _ _ _ _ _ _ ?_
    simp only [D, D0, bI_in, bI_0, bI_1, bI_t, bI_f, bI_01, ae_aload, ae_aload_n, ae_arraylength, ae_astore, ae_getfield, ae_iconst, ae_istore, dX4_isFree_0, dX4_isFree_1, dX4_isFree_4, dX4_isFree_6, dX4_isFree_8, dX4_isFree_9, dX4_isFree_11, dX4_isFree_12, tbX4_g9, ca_X4_isFree_31, ab_wp0, ab_wps, ab_stp, ab_g, ab_st, ab_k2, ab_cl, ab_pop, ab_sz, ab_2, ab_ret, ab_f4, ab_tg, ab_I, ab_II, ab_A, ab_Rf, ab_VR, ab_IR, ab_VIR, ab_1, ab_LL, ab_DD, ab_ob, ab_pr, ab_qr, ab_ln, ab_so, ab_vI, ab_vA, ab_vD, ab_vL, ab_v2, ab_c, ab_fit, ab_rv, ab_tsw, ab_lsw, ab_up_eq, Fin.isValue, ab_f0, ab_f1, ab_f2, ab_f3, List.getElem?_cons_zero, List.getElem?_cons_succ, List.set_cons_zero, List.set_cons_succ, List.length_cons, List.length_nil, List.size_toArray, List.head?_cons, List.tail_cons, Option.map_some, cond_true, cond_false, true_and, and_true, false_and, and_false, not_true_eq_false, not_false_eq_true, true_imp_iff, false_imp_iff, if_true, if_false, ite_true, ite_false, ↓reduceIte, Nat.reduceAdd, Nat.reduceEqDiff, Nat.reduceLeDiff, Nat.reduceLT, Nat.reduceBEq, Nat.reduceBNe, Int.reduceAdd, Int.reduceNeg, Int.reduceSub, Int.reduceLE, Int.reduceLT, Int.reduceToNat, Int.reduceEq, Int.reduceMul, Int.cast_ofNat_Int, Nat.zero_add, Nat.add_zero, Nat.le_refl, eq_self, ne_eq, reduceCtorEq, or_true, true_or, or_false, false_or, Bool.or_true, Bool.or_false, Bool.true_or, Bool.false_or, Nat.zero_le, Int.le_refl, Int.ofNat_zero, Int.ofNat_one, Bool.false_eq_true]
    try simp only [ab_in]
    (repeat' (first | intro _ | refine And.intro ?_ ?_)) <;> (first | exact l0 | contradiction | omega | (exfalso; omega))
  · exact hT.elim
set_option maxRecDepth 100000 in
theorem con_X4_isFree (l : Launch) (D : va_G) (ty : Nat → ClassId) (base : Nat) : ab_Con l D vwCl ty lw_ts base lw_wd yX4_isFree cX4_isFree 8 (some .boolean) 1 23 0 0 Tr_X4_isFree :=
  ab_con_of (own := RX4) (rt := 2) (tb := tbX4) (ini := false) (ca := ca_X4_isFree) (by decide +kernel) rfl (fun h => by cases h) rfl lw_wd_ok wtbX4 lw_ar cm_X4_isFree
    (fun p e R s m args below meth c K hcx => by
      obtain ⟨hx, hb, hml, hown, hF, rfl⟩ := hcx
      exact ab_lk_all (ab_all_c (ab_tc_S hx hb hml hown lw_wd_ok hF ⟨rfl, rfl⟩ (con_X4_meets l D ty base) (lw_wi (by decide +kernel) (by decide +kernel)) (lw_wi (by decide +kernel) (by decide +kernel)) (lw_wi (by decide +kernel) (by decide +kernel)) (lw_wi (by decide +kernel) (by decide +kernel)) (by decide +kernel) ⟨by decide, by decide⟩) (ab_all_n)))
    (by intro as h K ht; unfold Tr_X4_isFree at ht; split at ht <;> first | exact ht.elim | exact Nat.le_of_ble_eq_true rfl) (sem_X4_isFree base)
noncomputable def Tr_X4_at : ATr := fun as h K => match as with
  | [.inr (.inl (some a)), .inl x9, .inl y9] => ab_so (ab_sim h a) fun P => ((0 ≤ x9 ∧ x9 ≤ 11) ∧ (0 ≤ y9 ∧ y9 ≤ 7)) ∧ K (some (.inl (atS P.2 x9 y9))) h
  | _ => False
theorem mo_X4_at : ab_mo Tr_X4_at := by
  intro as h K K' hk ht
  unfold Tr_X4_at at ht ⊢
  split at ht
  · exact ab_so_mo (fun _ q => ⟨q.1, hk _ _ q.2⟩) ht
  · exact ht.elim
def ca_X4_at : Nat → Option ACS := ab_lk [(31, (2, 0, 4, 0, 0, Tr_X4_meets))]
theorem ca_X4_at_31 : ca_X4_at 31 = some (2, 0, 4, 0, 0, Tr_X4_meets) := rfl
theorem cm_X4_at : ∀ i q, ca_X4_at i = some q → ab_moq i q := ab_lk_all (ab_all_c mo_X4_meets (ab_all_n))
set_option maxRecDepth 100000 in
set_option maxHeartbeats 4000000 in
theorem sem_X4_at (base : Nat) : ab_Sem tbX4 lw_ts base cX4_at ca_X4_at 1 4 0 0 (fun as => ab_en as 4) Tr_X4_at := by
  intro as h K hT V hV
  unfold Tr_X4_at at hT
  split at hT
  · rename_i a x9 y9
    obtain ⟨⟨⟨sA, fS, rA, fR, dA, fD⟩, M⟩, hP, hT2⟩ := ab_so_el hT
    have hA := sim_el hP
    obtain ⟨mb, D, nd, D0, D1, D2, r0, r1, r2⟩ := id hA
    obtain ⟨mb1, mb2, mb3, mb4, mb5, mb6⟩ := id mb
    dsimp only at D D0 D1 D2 r0 r1 r2 mb1 mb2 mb3 mb4 mb5 mb6
    obtain ⟨hs, hK⟩ := hT2
    show V 0 [some (.inr (.inl (some a))), some (.inl x9), some (.inl y9), none] [] h 0 0
    have loop : ∀ (m : Nat) (x : Int), x + m = M.n → 0 ≤ x → K (some (.inl (atL M x9 y9 m x))) h → V 2 [some (.inr (.inl (some a))), some (.inl x9), some (.inl y9), some (.inl x)] [] h 0 0 := by
      intro m
      induction m with
      | zero =>
        intro x hx h0 hk2
        have hle : (M.n : Int) ≤ x := by omega
        simp only [atL] at hk2
        refine hV (fun p => p == 2) 80 _ _ _ _ _ _ ?_
        simp only [D, D0, hle, bI_in, bI_0, bI_1, bI_t, bI_f, bI_01, ae_aaload, ae_aload_n, ae_arraylength, ae_getfield, ae_goto, ae_iconst, ae_ifCond, ae_if_icmp, ae_iinc, ae_iload_n, ae_invokestatic, ae_ireturn, ae_istore_n, dX4_at_0, dX4_at_1, dX4_at_2, dX4_at_3, dX4_at_4, dX4_at_7, dX4_at_8, dX4_at_11, dX4_at_12, dX4_at_15, dX4_at_16, dX4_at_17, dX4_at_18, dX4_at_19, dX4_at_20, dX4_at_23, dX4_at_26, dX4_at_27, dX4_at_28, dX4_at_31, dX4_at_34, dX4_at_35, tbX4_g9, ca_X4_at_31, ab_wp0, ab_wps, ab_stp, ab_g, ab_st, ab_k2, ab_cl, ab_pop, ab_sz, ab_2, ab_ret, ab_f4, ab_tg, ab_I, ab_II, ab_A, ab_Rf, ab_VR, ab_IR, ab_VIR, ab_1, ab_LL, ab_DD, ab_ob, ab_pr, ab_qr, ab_ln, ab_so, ab_vI, ab_vA, ab_vD, ab_vL, ab_v2, ab_c, ab_fit, ab_rv, ab_tsw, ab_lsw, ab_up_eq, Fin.isValue, ab_f0, ab_f1, ab_f2, ab_f3, List.getElem?_cons_zero, List.getElem?_cons_succ, List.set_cons_zero, List.set_cons_succ, List.length_cons, List.length_nil, List.size_toArray, List.head?_cons, List.tail_cons, Option.map_some, cond_true, cond_false, true_and, and_true, false_and, and_false, not_true_eq_false, not_false_eq_true, true_imp_iff, false_imp_iff, if_true, if_false, ite_true, ite_false, ↓reduceIte, Nat.reduceAdd, Nat.reduceEqDiff, Nat.reduceLeDiff, Nat.reduceLT, Nat.reduceBEq, Nat.reduceBNe, Int.reduceAdd, Int.reduceNeg, Int.reduceSub, Int.reduceLE, Int.reduceLT, Int.reduceToNat, Int.reduceEq, Int.reduceMul, Int.cast_ofNat_Int, Nat.zero_add, Nat.add_zero, Nat.le_refl, eq_self, ne_eq, reduceCtorEq, or_true, true_or, or_false, false_or, Bool.or_true, Bool.or_false, Bool.true_or, Bool.false_or, Nat.zero_le, Int.le_refl, Int.ofNat_zero, Int.ofNat_one, Bool.false_eq_true]
        try simp only [ab_in]
        (repeat' (first | intro _ | refine And.intro ?_ ?_)) <;> (first | exact hk2 | contradiction | omega | (exfalso; omega))
      | succ m ih =>
        intro x hx h0 hk2
        have hlt : ¬ (M.n : Int) ≤ x := by omega
        obtain ⟨p, hp, hpc⟩ := r0.1 x h0 (by omega)
        have hsl := mb1 x
        obtain ⟨c1, c2, c3, c4, c5⟩ := id hsl
        simp only [atL] at hk2
        cases hm : meetsF (M.sl x) y9 x9 1
        · simp only [hm, cond_false] at hk2
          have ih1 := ih (x + 1) (by omega) (by omega) hk2
          refine hV (fun p => p == 2) 80 _ _ _ _ _ _ ?_
          simp only [D, hlt, D0, hp, hpc, hm, bI_in, bI_0, bI_1, bI_t, bI_f, bI_01, Tr_X4_meets, ae_aaload, ae_aload_n, ae_arraylength, ae_getfield, ae_goto, ae_iconst, ae_ifCond, ae_if_icmp, ae_iinc, ae_iload_n, ae_invokestatic, ae_ireturn, ae_istore_n, dX4_at_0, dX4_at_1, dX4_at_2, dX4_at_3, dX4_at_4, dX4_at_7, dX4_at_8, dX4_at_11, dX4_at_12, dX4_at_15, dX4_at_16, dX4_at_17, dX4_at_18, dX4_at_19, dX4_at_20, dX4_at_23, dX4_at_26, dX4_at_27, dX4_at_28, dX4_at_31, dX4_at_34, dX4_at_35, tbX4_g9, ca_X4_at_31, ab_wp0, ab_wps, ab_stp, ab_g, ab_st, ab_k2, ab_cl, ab_pop, ab_sz, ab_2, ab_ret, ab_f4, ab_tg, ab_I, ab_II, ab_A, ab_Rf, ab_VR, ab_IR, ab_VIR, ab_1, ab_LL, ab_DD, ab_ob, ab_pr, ab_qr, ab_ln, ab_so, ab_vI, ab_vA, ab_vD, ab_vL, ab_v2, ab_c, ab_fit, ab_rv, ab_tsw, ab_lsw, ab_up_eq, Fin.isValue, ab_f0, ab_f1, ab_f2, ab_f3, List.getElem?_cons_zero, List.getElem?_cons_succ, List.set_cons_zero, List.set_cons_succ, List.length_cons, List.length_nil, List.size_toArray, List.head?_cons, List.tail_cons, Option.map_some, cond_true, cond_false, true_and, and_true, false_and, and_false, not_true_eq_false, not_false_eq_true, true_imp_iff, false_imp_iff, if_true, if_false, ite_true, ite_false, ↓reduceIte, Nat.reduceAdd, Nat.reduceEqDiff, Nat.reduceLeDiff, Nat.reduceLT, Nat.reduceBEq, Nat.reduceBNe, Int.reduceAdd, Int.reduceNeg, Int.reduceSub, Int.reduceLE, Int.reduceLT, Int.reduceToNat, Int.reduceEq, Int.reduceMul, Int.cast_ofNat_Int, Nat.zero_add, Nat.add_zero, Nat.le_refl, eq_self, ne_eq, reduceCtorEq, or_true, true_or, or_false, false_or, Bool.or_true, Bool.or_false, Bool.true_or, Bool.false_or, Nat.zero_le, Int.le_refl, Int.ofNat_zero, Int.ofNat_one, Bool.false_eq_true]
          try simp only [ab_in]
          (repeat' (first | intro _ | refine And.intro ?_ ?_)) <;> (first | exact ih1 | exact hsl | exact rfl | contradiction | omega | (exfalso; omega))
        · simp only [hm, cond_true] at hk2
          refine hV (fun p => p == 2) 80 _ _ _ _ _ _ ?_
          simp only [D, hlt, D0, hp, hpc, hm, bI_in, bI_0, bI_1, bI_t, bI_f, bI_01, Tr_X4_meets, ae_aaload, ae_aload_n, ae_arraylength, ae_getfield, ae_goto, ae_iconst, ae_ifCond, ae_if_icmp, ae_iinc, ae_iload_n, ae_invokestatic, ae_ireturn, ae_istore_n, dX4_at_0, dX4_at_1, dX4_at_2, dX4_at_3, dX4_at_4, dX4_at_7, dX4_at_8, dX4_at_11, dX4_at_12, dX4_at_15, dX4_at_16, dX4_at_17, dX4_at_18, dX4_at_19, dX4_at_20, dX4_at_23, dX4_at_26, dX4_at_27, dX4_at_28, dX4_at_31, dX4_at_34, dX4_at_35, tbX4_g9, ca_X4_at_31, ab_wp0, ab_wps, ab_stp, ab_g, ab_st, ab_k2, ab_cl, ab_pop, ab_sz, ab_2, ab_ret, ab_f4, ab_tg, ab_I, ab_II, ab_A, ab_Rf, ab_VR, ab_IR, ab_VIR, ab_1, ab_LL, ab_DD, ab_ob, ab_pr, ab_qr, ab_ln, ab_so, ab_vI, ab_vA, ab_vD, ab_vL, ab_v2, ab_c, ab_fit, ab_rv, ab_tsw, ab_lsw, ab_up_eq, Fin.isValue, ab_f0, ab_f1, ab_f2, ab_f3, List.getElem?_cons_zero, List.getElem?_cons_succ, List.set_cons_zero, List.set_cons_succ, List.length_cons, List.length_nil, List.size_toArray, List.head?_cons, List.tail_cons, Option.map_some, cond_true, cond_false, true_and, and_true, false_and, and_false, not_true_eq_false, not_false_eq_true, true_imp_iff, false_imp_iff, if_true, if_false, ite_true, ite_false, ↓reduceIte, Nat.reduceAdd, Nat.reduceEqDiff, Nat.reduceLeDiff, Nat.reduceLT, Nat.reduceBEq, Nat.reduceBNe, Int.reduceAdd, Int.reduceNeg, Int.reduceSub, Int.reduceLE, Int.reduceLT, Int.reduceToNat, Int.reduceEq, Int.reduceMul, Int.cast_ofNat_Int, Nat.zero_add, Nat.add_zero, Nat.le_refl, eq_self, ne_eq, reduceCtorEq, or_true, true_or, or_false, false_or, Bool.or_true, Bool.or_false, Bool.true_or, Bool.false_or, Nat.zero_le, Int.le_refl, Int.ofNat_zero, Int.ofNat_one, Bool.false_eq_true]
          try simp only [ab_in]
          (repeat' (first | intro _ | refine And.intro ?_ ?_)) <;> (first | exact hk2 | exact hsl | exact rfl | contradiction | omega | (exfalso; omega))
    have l0 := loop M.n 0 (by omega) (by omega) hK
    refine hV (fun p => p == 2) 80 _ _ _ _ _ _ ?_
    simp only [bI_in, bI_0, bI_1, bI_t, bI_f, bI_01, ae_iconst, ae_istore_n, dX4_at_0, dX4_at_1, ca_X4_at_31, ab_wp0, ab_wps, ab_stp, ab_g, ab_st, ab_k2, ab_cl, ab_pop, ab_sz, ab_2, ab_ret, ab_f4, ab_tg, ab_I, ab_II, ab_A, ab_Rf, ab_VR, ab_IR, ab_VIR, ab_1, ab_LL, ab_DD, ab_ob, ab_pr, ab_qr, ab_ln, ab_so, ab_vI, ab_vA, ab_vD, ab_vL, ab_v2, ab_c, ab_fit, ab_rv, ab_tsw, ab_lsw, ab_up_eq, Fin.isValue, ab_f0, ab_f1, ab_f2, ab_f3, List.getElem?_cons_zero, List.getElem?_cons_succ, List.set_cons_zero, List.set_cons_succ, List.length_cons, List.length_nil, List.size_toArray, List.head?_cons, List.tail_cons, Option.map_some, cond_true, cond_false, true_and, and_true, false_and, and_false, not_true_eq_false, not_false_eq_true, true_imp_iff, false_imp_iff, if_true, if_false, ite_true, ite_false, ↓reduceIte, Nat.reduceAdd, Nat.reduceEqDiff, Nat.reduceLeDiff, Nat.reduceLT, Nat.reduceBEq, Nat.reduceBNe, Int.reduceAdd, Int.reduceNeg, Int.reduceSub, Int.reduceLE, Int.reduceLT, Int.reduceToNat, Int.reduceEq, Int.reduceMul, Int.cast_ofNat_Int, Nat.zero_add, Nat.add_zero, Nat.le_refl, eq_self, ne_eq, reduceCtorEq, or_true, true_or, or_false, false_or, Bool.or_true, Bool.or_false, Bool.true_or, Bool.false_or, Nat.zero_le, Int.le_refl, Int.ofNat_zero, Int.ofNat_one, Bool.false_eq_true]
    try simp only [ab_in]
    (repeat' (first | intro _ | refine And.intro ?_ ?_)) <;> (first | exact l0 | contradiction | omega | (exfalso; omega))
  · exact hT.elim
set_option maxRecDepth 100000 in
theorem con_X4_at (l : Launch) (D : va_G) (ty : Nat → ClassId) (base : Nat) : ab_Con l D vwCl ty lw_ts base lw_wd yX4_at cX4_at 4 (some .int) 1 23 0 0 Tr_X4_at :=
  ab_con_of (own := RX4) (rt := 1) (tb := tbX4) (ini := false) (ca := ca_X4_at) (by decide +kernel) rfl (fun h => by cases h) rfl lw_wd_ok wtbX4 lw_ar cm_X4_at
    (fun p e R s m args below meth c K hcx => by
      obtain ⟨hx, hb, hml, hown, hF, rfl⟩ := hcx
      exact ab_lk_all (ab_all_c (ab_tc_S hx hb hml hown lw_wd_ok hF ⟨rfl, rfl⟩ (con_X4_meets l D ty base) (lw_wi (by decide +kernel) (by decide +kernel)) (lw_wi (by decide +kernel) (by decide +kernel)) (lw_wi (by decide +kernel) (by decide +kernel)) (lw_wi (by decide +kernel) (by decide +kernel)) (by decide +kernel) ⟨by decide, by decide⟩) (ab_all_n)))
    (by intro as h K ht; unfold Tr_X4_at at ht; split at ht <;> first | exact ht.elim | exact Nat.le_of_ble_eq_true rfl) (sem_X4_at base)
noncomputable def Tr_X4_hold : ATr := fun as h K => match as with
  | [.inr (.inl (some a)), .inr (.inl (some q))] => ab_so (ab_sim h a) fun P => ab_pr (h q) fun t n f => (t = 0 ∧ n = 6 ∧ slB f) ∧ K (some (.inl (holdS P.2 f))) h
  | _ => False
theorem mo_X4_hold : ab_mo Tr_X4_hold := by
  intro as h K K' hk ht
  unfold Tr_X4_hold at ht ⊢
  split at ht
  · exact ab_so_mo (fun _ q => ab_pr_mo (fun t n f w => ⟨w.1, hk _ _ w.2⟩) q) ht
  · exact ht.elim
def ca_X4_hold : Nat → Option ACS := ab_lk [(35, (0, 4, 2, 0, 0, Tr_X4_upon))]
theorem ca_X4_hold_35 : ca_X4_hold 35 = some (0, 4, 2, 0, 0, Tr_X4_upon) := rfl
theorem cm_X4_hold : ∀ i q, ca_X4_hold i = some q → ab_moq i q := ab_lk_all (ab_all_c mo_X4_upon (ab_all_n))
set_option maxRecDepth 100000 in
set_option maxHeartbeats 4000000 in
theorem sem_X4_hold (base : Nat) : ab_Sem tbX4 lw_ts base cX4_hold ca_X4_hold 1 4 0 0 (fun as => ab_en as 4) Tr_X4_hold := by
  intro as h K hT V hV
  unfold Tr_X4_hold at hT
  split at hT
  · rename_i a q
    obtain ⟨⟨⟨sA, fS, rA, fR, dA, fD⟩, M⟩, hP, hT2⟩ := ab_so_el hT
    have hA := sim_el hP
    obtain ⟨mb, D, nd, D0, D1, D2, r0, r1, r2⟩ := id hA
    obtain ⟨mb1, mb2, mb3, mb4, mb5, mb6⟩ := id mb
    dsimp only at D D0 D1 D2 r0 r1 r2 mb1 mb2 mb3 mb4 mb5 mb6
    obtain ⟨t, n0, f, hc, ⟨rfl, rfl, hB⟩, hK⟩ := ab_pr_el hT2
    obtain ⟨b1, b2, b3, b4, b5⟩ := id hB
    show V 0 [some (.inr (.inl (some a))), some (.inr (.inl (some q))), none, none] [] h 0 0
    have hu : 0 ≤ uponS M f ∧ uponS M f ≤ 200 := by
      have := sumR_rb (g := fun k => meetsF (M.sl k) (f 0 + 1) (f 1) (f 2)) M.n 0
      unfold uponS
      omega
    have aft : ∀ (e x : Int), (e = 2 ∨ e = 3) → e = eachL M (f 0) (f 2).toNat (f 1) 3 → V 39 [some (.inr (.inl (some a))), some (.inr (.inl (some q))), some (.inl e), some (.inl x)] [] h 0 0 := by
      intro e x he1 he
      have hs0 : 0 ≤ e * f 3 ∧ e * f 3 ≤ 9 := by rcases he1 with rfl | rfl <;> omega
      unfold holdS at hK
      rw [← he] at hK
      by_cases h4 : f 4 = 1
      · rw [if_pos h4] at hK
        refine hV (fun _ => false) 80 _ _ _ _ _ _ ?_
        simp only [hP, D, hc, h4, bI_in, bI_0, bI_1, bI_t, bI_f, bI_01, Tr_X4_upon, ae_aload_n, ae_goto, ae_iadd, ae_iaload, ae_iconst, ae_idiv, ae_if_icmp, ae_iload_n, ae_imul, ae_invokevirtual, ae_ireturn, ae_istore_n, dX4_hold_39, dX4_hold_40, dX4_hold_41, dX4_hold_42, dX4_hold_43, dX4_hold_44, dX4_hold_45, dX4_hold_46, dX4_hold_47, dX4_hold_50, dX4_hold_51, dX4_hold_52, dX4_hold_53, dX4_hold_54, dX4_hold_55, dX4_hold_56, dX4_hold_57, dX4_hold_60, dX4_hold_61, dX4_hold_62, dX4_hold_63, dX4_hold_66, dX4_hold_67, ca_X4_hold_35, ab_wp0, ab_wps, ab_stp, ab_g, ab_st, ab_k2, ab_cl, ab_pop, ab_sz, ab_2, ab_ret, ab_f4, ab_tg, ab_I, ab_II, ab_A, ab_Rf, ab_VR, ab_IR, ab_VIR, ab_1, ab_LL, ab_DD, ab_ob, ab_pr, ab_qr, ab_ln, ab_so, ab_vI, ab_vA, ab_vD, ab_vL, ab_v2, ab_c, ab_fit, ab_rv, ab_tsw, ab_lsw, ab_up_eq, Fin.isValue, ab_f0, ab_f1, ab_f2, ab_f3, List.getElem?_cons_zero, List.getElem?_cons_succ, List.set_cons_zero, List.set_cons_succ, List.length_cons, List.length_nil, List.size_toArray, List.head?_cons, List.tail_cons, Option.map_some, cond_true, cond_false, true_and, and_true, false_and, and_false, not_true_eq_false, not_false_eq_true, true_imp_iff, false_imp_iff, if_true, if_false, ite_true, ite_false, ↓reduceIte, Nat.reduceAdd, Nat.reduceEqDiff, Nat.reduceLeDiff, Nat.reduceLT, Nat.reduceBEq, Nat.reduceBNe, Int.reduceAdd, Int.reduceNeg, Int.reduceSub, Int.reduceLE, Int.reduceLT, Int.reduceToNat, Int.reduceEq, Int.reduceMul, Int.cast_ofNat_Int, Nat.zero_add, Nat.add_zero, Nat.le_refl, eq_self, ne_eq, reduceCtorEq, or_true, true_or, or_false, false_or, Bool.or_true, Bool.or_false, Bool.true_or, Bool.false_or, Nat.zero_le, Int.le_refl, Int.ofNat_zero, Int.ofNat_one, Bool.false_eq_true]
        try simp only [ab_in]
        (repeat' (first | intro _ | refine And.intro ?_ ?_)) <;> (first | exact hK | exact hB | exact rfl | contradiction | omega | (exfalso; omega))
      · rw [if_neg h4] at hK
        refine hV (fun _ => false) 80 _ _ _ _ _ _ ?_
        simp only [hP, D, hc, h4, bI_in, bI_0, bI_1, bI_t, bI_f, bI_01, Tr_X4_upon, ae_aload_n, ae_goto, ae_iadd, ae_iaload, ae_iconst, ae_idiv, ae_if_icmp, ae_iload_n, ae_imul, ae_invokevirtual, ae_ireturn, ae_istore_n, dX4_hold_39, dX4_hold_40, dX4_hold_41, dX4_hold_42, dX4_hold_43, dX4_hold_44, dX4_hold_45, dX4_hold_46, dX4_hold_47, dX4_hold_50, dX4_hold_51, dX4_hold_52, dX4_hold_53, dX4_hold_54, dX4_hold_55, dX4_hold_56, dX4_hold_57, dX4_hold_60, dX4_hold_61, dX4_hold_62, dX4_hold_63, dX4_hold_66, dX4_hold_67, ca_X4_hold_35, ab_wp0, ab_wps, ab_stp, ab_g, ab_st, ab_k2, ab_cl, ab_pop, ab_sz, ab_2, ab_ret, ab_f4, ab_tg, ab_I, ab_II, ab_A, ab_Rf, ab_VR, ab_IR, ab_VIR, ab_1, ab_LL, ab_DD, ab_ob, ab_pr, ab_qr, ab_ln, ab_so, ab_vI, ab_vA, ab_vD, ab_vL, ab_v2, ab_c, ab_fit, ab_rv, ab_tsw, ab_lsw, ab_up_eq, Fin.isValue, ab_f0, ab_f1, ab_f2, ab_f3, List.getElem?_cons_zero, List.getElem?_cons_succ, List.set_cons_zero, List.set_cons_succ, List.length_cons, List.length_nil, List.size_toArray, List.head?_cons, List.tail_cons, Option.map_some, cond_true, cond_false, true_and, and_true, false_and, and_false, not_true_eq_false, not_false_eq_true, true_imp_iff, false_imp_iff, if_true, if_false, ite_true, ite_false, ↓reduceIte, Nat.reduceAdd, Nat.reduceEqDiff, Nat.reduceLeDiff, Nat.reduceLT, Nat.reduceBEq, Nat.reduceBNe, Int.reduceAdd, Int.reduceNeg, Int.reduceSub, Int.reduceLE, Int.reduceLT, Int.reduceToNat, Int.reduceEq, Int.reduceMul, Int.cast_ofNat_Int, Nat.zero_add, Nat.add_zero, Nat.le_refl, eq_self, ne_eq, reduceCtorEq, or_true, true_or, or_false, false_or, Bool.or_true, Bool.or_false, Bool.true_or, Bool.false_or, Nat.zero_le, Int.le_refl, Int.ofNat_zero, Int.ofNat_one, Bool.false_eq_true]
        try simp only [ab_in]
        (repeat' (first | intro _ | refine And.intro ?_ ?_)) <;> (first | exact hK | exact hB | exact rfl | contradiction | omega | (exfalso; omega))
    have loop : ∀ (m : Nat) (x e : Int), x + m = f 1 + f 2 → 0 ≤ x → (e = 2 ∨ e = 3) → eachL M (f 0) m x e = eachL M (f 0) (f 2).toNat (f 1) 3 → V 6 [some (.inr (.inl (some a))), some (.inr (.inl (some q))), some (.inl e), some (.inl x)] [] h 0 0 := by
      intro m
      induction m with
      | zero =>
        intro x e hx h0 he1 he
        have hle : f 1 + f 2 ≤ x := by omega
        have ih1 := aft e x he1 he
        refine hV (fun p => bif p == 6 then true else p == 39) 80 _ _ _ _ _ _ ?_
        simp only [hc, hle, bI_in, bI_0, bI_1, bI_t, bI_f, bI_01, ae_aaload, ae_aload_n, ae_getfield, ae_goto, ae_iadd, ae_iaload, ae_iconst, ae_if_icmp, ae_iinc, ae_iload_n, ae_istore_n, dX4_hold_6, dX4_hold_7, dX4_hold_8, dX4_hold_9, dX4_hold_10, dX4_hold_11, dX4_hold_12, dX4_hold_13, dX4_hold_14, dX4_hold_17, dX4_hold_18, dX4_hold_21, dX4_hold_22, dX4_hold_23, dX4_hold_24, dX4_hold_25, dX4_hold_26, dX4_hold_27, dX4_hold_28, dX4_hold_31, dX4_hold_32, dX4_hold_33, dX4_hold_36, tbX4_g16, ca_X4_hold_35, ab_wp0, ab_wps, ab_stp, ab_g, ab_st, ab_k2, ab_cl, ab_pop, ab_sz, ab_2, ab_ret, ab_f4, ab_tg, ab_I, ab_II, ab_A, ab_Rf, ab_VR, ab_IR, ab_VIR, ab_1, ab_LL, ab_DD, ab_ob, ab_pr, ab_qr, ab_ln, ab_so, ab_vI, ab_vA, ab_vD, ab_vL, ab_v2, ab_c, ab_fit, ab_rv, ab_tsw, ab_lsw, ab_up_eq, Fin.isValue, ab_f0, ab_f1, ab_f2, ab_f3, List.getElem?_cons_zero, List.getElem?_cons_succ, List.set_cons_zero, List.set_cons_succ, List.length_cons, List.length_nil, List.size_toArray, List.head?_cons, List.tail_cons, Option.map_some, cond_true, cond_false, true_and, and_true, false_and, and_false, not_true_eq_false, not_false_eq_true, true_imp_iff, false_imp_iff, if_true, if_false, ite_true, ite_false, ↓reduceIte, Nat.reduceAdd, Nat.reduceEqDiff, Nat.reduceLeDiff, Nat.reduceLT, Nat.reduceBEq, Nat.reduceBNe, Int.reduceAdd, Int.reduceNeg, Int.reduceSub, Int.reduceLE, Int.reduceLT, Int.reduceToNat, Int.reduceEq, Int.reduceMul, Int.cast_ofNat_Int, Nat.zero_add, Nat.add_zero, Nat.le_refl, eq_self, ne_eq, reduceCtorEq, or_true, true_or, or_false, false_or, Bool.or_true, Bool.or_false, Bool.true_or, Bool.false_or, Nat.zero_le, Int.le_refl, Int.ofNat_zero, Int.ofNat_one, Bool.false_eq_true]
        try simp only [ab_in]
        (repeat' (first | intro _ | refine And.intro ?_ ?_)) <;> (first | exact ih1 | contradiction | omega | (exfalso; omega))
      | succ m ih =>
        intro x e hx h0 he1 he
        have hlt : ¬ f 1 + f 2 ≤ x := by omega
        obtain ⟨p, hp, hpc⟩ := r1.1 x h0 (by omega)
        have hr := mb2 x (f 0)
        simp only [eachL] at he
        by_cases h4 : 4 < M.rt x (f 0)
        · rw [if_pos h4] at he
          have ih1 := ih (x + 1) 2 (by omega) (by omega) (by omega) he
          refine hV (fun p => bif p == 6 then true else p == 39) 80 _ _ _ _ _ _ ?_
          simp only [D, D1, hc, hlt, hp, hpc, bI_in, bI_0, bI_1, bI_t, bI_f, bI_01, ae_aaload, ae_aload_n, ae_getfield, ae_goto, ae_iadd, ae_iaload, ae_iconst, ae_if_icmp, ae_iinc, ae_iload_n, ae_istore_n, dX4_hold_6, dX4_hold_7, dX4_hold_8, dX4_hold_9, dX4_hold_10, dX4_hold_11, dX4_hold_12, dX4_hold_13, dX4_hold_14, dX4_hold_17, dX4_hold_18, dX4_hold_21, dX4_hold_22, dX4_hold_23, dX4_hold_24, dX4_hold_25, dX4_hold_26, dX4_hold_27, dX4_hold_28, dX4_hold_31, dX4_hold_32, dX4_hold_33, dX4_hold_36, tbX4_g16, ca_X4_hold_35, ab_wp0, ab_wps, ab_stp, ab_g, ab_st, ab_k2, ab_cl, ab_pop, ab_sz, ab_2, ab_ret, ab_f4, ab_tg, ab_I, ab_II, ab_A, ab_Rf, ab_VR, ab_IR, ab_VIR, ab_1, ab_LL, ab_DD, ab_ob, ab_pr, ab_qr, ab_ln, ab_so, ab_vI, ab_vA, ab_vD, ab_vL, ab_v2, ab_c, ab_fit, ab_rv, ab_tsw, ab_lsw, ab_up_eq, Fin.isValue, ab_f0, ab_f1, ab_f2, ab_f3, List.getElem?_cons_zero, List.getElem?_cons_succ, List.set_cons_zero, List.set_cons_succ, List.length_cons, List.length_nil, List.size_toArray, List.head?_cons, List.tail_cons, Option.map_some, cond_true, cond_false, true_and, and_true, false_and, and_false, not_true_eq_false, not_false_eq_true, true_imp_iff, false_imp_iff, if_true, if_false, ite_true, ite_false, ↓reduceIte, Nat.reduceAdd, Nat.reduceEqDiff, Nat.reduceLeDiff, Nat.reduceLT, Nat.reduceBEq, Nat.reduceBNe, Int.reduceAdd, Int.reduceNeg, Int.reduceSub, Int.reduceLE, Int.reduceLT, Int.reduceToNat, Int.reduceEq, Int.reduceMul, Int.cast_ofNat_Int, Nat.zero_add, Nat.add_zero, Nat.le_refl, eq_self, ne_eq, reduceCtorEq, or_true, true_or, or_false, false_or, Bool.or_true, Bool.or_false, Bool.true_or, Bool.false_or, Nat.zero_le, Int.le_refl, Int.ofNat_zero, Int.ofNat_one, Bool.false_eq_true]
          try simp only [ab_in]
          (repeat' (first | intro _ | refine And.intro ?_ ?_)) <;> (first | exact ih1 | exact rfl | contradiction | omega | (exfalso; omega))
        · rw [if_neg h4] at he
          have ih1 := ih (x + 1) e (by omega) (by omega) he1 he
          refine hV (fun p => bif p == 6 then true else p == 39) 80 _ _ _ _ _ _ ?_
          simp only [D, D1, hc, hlt, hp, hpc, bI_in, bI_0, bI_1, bI_t, bI_f, bI_01, ae_aaload, ae_aload_n, ae_getfield, ae_goto, ae_iadd, ae_iaload, ae_iconst, ae_if_icmp, ae_iinc, ae_iload_n, ae_istore_n, dX4_hold_6, dX4_hold_7, dX4_hold_8, dX4_hold_9, dX4_hold_10, dX4_hold_11, dX4_hold_12, dX4_hold_13, dX4_hold_14, dX4_hold_17, dX4_hold_18, dX4_hold_21, dX4_hold_22, dX4_hold_23, dX4_hold_24, dX4_hold_25, dX4_hold_26, dX4_hold_27, dX4_hold_28, dX4_hold_31, dX4_hold_32, dX4_hold_33, dX4_hold_36, tbX4_g16, ca_X4_hold_35, ab_wp0, ab_wps, ab_stp, ab_g, ab_st, ab_k2, ab_cl, ab_pop, ab_sz, ab_2, ab_ret, ab_f4, ab_tg, ab_I, ab_II, ab_A, ab_Rf, ab_VR, ab_IR, ab_VIR, ab_1, ab_LL, ab_DD, ab_ob, ab_pr, ab_qr, ab_ln, ab_so, ab_vI, ab_vA, ab_vD, ab_vL, ab_v2, ab_c, ab_fit, ab_rv, ab_tsw, ab_lsw, ab_up_eq, Fin.isValue, ab_f0, ab_f1, ab_f2, ab_f3, List.getElem?_cons_zero, List.getElem?_cons_succ, List.set_cons_zero, List.set_cons_succ, List.length_cons, List.length_nil, List.size_toArray, List.head?_cons, List.tail_cons, Option.map_some, cond_true, cond_false, true_and, and_true, false_and, and_false, not_true_eq_false, not_false_eq_true, true_imp_iff, false_imp_iff, if_true, if_false, ite_true, ite_false, ↓reduceIte, Nat.reduceAdd, Nat.reduceEqDiff, Nat.reduceLeDiff, Nat.reduceLT, Nat.reduceBEq, Nat.reduceBNe, Int.reduceAdd, Int.reduceNeg, Int.reduceSub, Int.reduceLE, Int.reduceLT, Int.reduceToNat, Int.reduceEq, Int.reduceMul, Int.cast_ofNat_Int, Nat.zero_add, Nat.add_zero, Nat.le_refl, eq_self, ne_eq, reduceCtorEq, or_true, true_or, or_false, false_or, Bool.or_true, Bool.or_false, Bool.true_or, Bool.false_or, Nat.zero_le, Int.le_refl, Int.ofNat_zero, Int.ofNat_one, Bool.false_eq_true]
          try simp only [ab_in]
          (repeat' (first | intro _ | refine And.intro ?_ ?_)) <;> (first | exact ih1 | exact rfl | contradiction | omega | (exfalso; omega))
    have l0 := loop (f 2).toNat (f 1) 3 (by omega) (by omega) (by omega) rfl
    refine hV (fun p => p == 6) 80 _ _ _ _ _ _ ?_
    simp only [hc, bI_in, bI_0, bI_1, bI_t, bI_f, bI_01, ae_aload_n, ae_iaload, ae_iconst, ae_istore_n, dX4_hold_0, dX4_hold_1, dX4_hold_2, dX4_hold_3, dX4_hold_4, dX4_hold_5, ca_X4_hold_35, ab_wp0, ab_wps, ab_stp, ab_g, ab_st, ab_k2, ab_cl, ab_pop, ab_sz, ab_2, ab_ret, ab_f4, ab_tg, ab_I, ab_II, ab_A, ab_Rf, ab_VR, ab_IR, ab_VIR, ab_1, ab_LL, ab_DD, ab_ob, ab_pr, ab_qr, ab_ln, ab_so, ab_vI, ab_vA, ab_vD, ab_vL, ab_v2, ab_c, ab_fit, ab_rv, ab_tsw, ab_lsw, ab_up_eq, Fin.isValue, ab_f0, ab_f1, ab_f2, ab_f3, List.getElem?_cons_zero, List.getElem?_cons_succ, List.set_cons_zero, List.set_cons_succ, List.length_cons, List.length_nil, List.size_toArray, List.head?_cons, List.tail_cons, Option.map_some, cond_true, cond_false, true_and, and_true, false_and, and_false, not_true_eq_false, not_false_eq_true, true_imp_iff, false_imp_iff, if_true, if_false, ite_true, ite_false, ↓reduceIte, Nat.reduceAdd, Nat.reduceEqDiff, Nat.reduceLeDiff, Nat.reduceLT, Nat.reduceBEq, Nat.reduceBNe, Int.reduceAdd, Int.reduceNeg, Int.reduceSub, Int.reduceLE, Int.reduceLT, Int.reduceToNat, Int.reduceEq, Int.reduceMul, Int.cast_ofNat_Int, Nat.zero_add, Nat.add_zero, Nat.le_refl, eq_self, ne_eq, reduceCtorEq, or_true, true_or, or_false, false_or, Bool.or_true, Bool.or_false, Bool.true_or, Bool.false_or, Nat.zero_le, Int.le_refl, Int.ofNat_zero, Int.ofNat_one, Bool.false_eq_true]
    try simp only [ab_in]
    (repeat' (first | intro _ | refine And.intro ?_ ?_)) <;> (first | exact l0 | contradiction | omega | (exfalso; omega))
  · exact hT.elim
set_option maxRecDepth 100000 in
theorem con_X4_hold (l : Launch) (D : va_G) (ty : Nat → ClassId) (base : Nat) : ab_Con l D vwCl ty lw_ts base lw_wd yX4_hold cX4_hold 4 (some .int) 2 49 0 0 Tr_X4_hold :=
  ab_con_of (own := RX4) (rt := 1) (tb := tbX4) (ini := false) (ca := ca_X4_hold) (by decide +kernel) rfl (fun h => by cases h) rfl lw_wd_ok wtbX4 lw_ar cm_X4_hold
    (fun p e R s m args below meth c K hcx => by
      obtain ⟨hx, hb, hml, hown, hF, rfl⟩ := hcx
      exact ab_lk_all (ab_all_c (ab_tc_V hx hb hml hown lw_wd_ok hF ⟨rfl, rfl⟩ (con_X4_upon l D ty base) rfl (lw_wi (by decide +kernel) (by decide +kernel)) (lw_wi (by decide +kernel) (by decide +kernel)) (lw_wi (by decide +kernel) (by decide +kernel)) (lw_wi (by decide +kernel) (by decide +kernel)) (lw_wi (by decide +kernel) (by decide +kernel)) (by decide +kernel) ⟨by decide, by decide⟩) (ab_all_n)))
    (by intro as h K ht; unfold Tr_X4_hold at ht; split at ht <;> first | exact ht.elim | exact Nat.le_of_ble_eq_true rfl) (sem_X4_hold base)
