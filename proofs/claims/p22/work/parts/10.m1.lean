/-! ===== Roof: what only reads ===== -/
def isKnownF (S : RS) (s : Int) : Bool := decide (0 ≤ s ∧ s < S.laid ∧ s < 200)
def isThereF (S : RS) (s : Int) : Bool := isKnownF S s && decide (S.onr s = 1)
def numberAtF (S : RS) (x y : Int) : Int := if 0 ≤ x ∧ x < 12 ∧ 0 ≤ y ∧ y < 8 then S.num (12 * y + x) else -1
def rotAtF (S : RS) (x y : Int) : Int := if 0 ≤ x ∧ x < 12 ∧ 0 ≤ y ∧ y < 8 then S.rot (12 * y + x) else 0
theorem numberAtF_r {S : RS} (h : RB S) (x y : Int) : -1 ≤ numberAtF S x y ∧ numberAtF S x y < 200 := by
  unfold numberAtF; split
  · exact h.num_r _
  · omega
theorem rotAtF_r {S : RS} (h : RB S) (x y : Int) : 0 ≤ rotAtF S x y ∧ rotAtF S x y ≤ 9 := by
  unfold rotAtF; split
  · exact h.rot_r _
  · omega
theorem isKnownF_t {S : RS} {s : Int} (h : isKnownF S s = true) : 0 ≤ s ∧ s < S.laid ∧ s < 200 := of_decide_eq_true h
theorem isThereF_t {S : RS} {s : Int} (h : isThereF S s = true) : isKnownF S s = true ∧ S.onr s = 1 := by
  unfold isThereF at h
  rw [Bool.and_eq_true] at h
  exact ⟨h.1, of_decide_eq_true h.2⟩
/-- slates of row y at n places from x on, one after the other, each once -/
def uponL (S : RS) (y : Int) : Nat → Int → Int → Int → Int
  | 0, _, many, _ => many
  | n + 1, x, many, last => if numberAtF S x y = -1 then uponL S y n (x + 1) many last else if numberAtF S x y = last then uponL S y n (x + 1) many last else uponL S y n (x + 1) (many + 1) (numberAtF S x y)
def uponF (S : RS) (s : Int) : Int := bif isThereF S s then uponL S (S.row s + 1) (S.wid s).toNat (S.frm s) 0 (-1) else 0
def onRotF (S : RS) (s : Int) : Bool := isKnownF S s && anyR (fun x => !decide (rotAtF S x (S.row s) < 5)) (S.wid s).toNat (S.frm s)
def bareF (S : RS) (s : Int) : Bool := isKnownF S s && anyR (fun x => decide (numberAtF S x (S.row s + 1) = -1)) (S.wid s).toNat (S.frm s)
def holdF (S : RS) (s : Int) : Int := bif isThereF S s then (if S.crk s = 0 then (bif onRotF S s then 2 else 3) * S.nai s + 2 * uponF S s else Int.tdiv ((bif onRotF S s then 2 else 3) * S.nai s + 2 * uponF S s) 2) else 0
def liftF (S : RS) (s force right : Int) : Int := bif isKnownF S s then force + S.row s - (if numberAtF S (if right = 0 then S.frm s - 1 else S.frm s + S.wid s) (S.row s) = -1 then 0 else 2) else 0
def isFreeF (S : RS) (row from9 wide : Int) : Bool := allR (fun x => decide (numberAtF S x row = -1) && decide (numberAtF S x (row + 1) = -1)) wide.toNat from9
def wholeF (S : RS) (x y : Int) : Bool := isKnownF S (numberAtF S x y) && decide (S.crk (numberAtF S x y) = 0)
def coveredF (S : RS) (x y : Int) : Bool := wholeF S x y || wholeF S x (y + 1)
def covPlF (S : RS) : Int := sumR (fun y => sumR (fun x => bI (coveredF S x y)) 12 0) 8 0
def crkThF (S : RS) : Int := sumR (fun s => bI (decide (S.onr s = 1) && decide (S.crk s = 1))) S.laid.toNat 0
def allRotF (S : RS) : Int := sumR S.rot 96 0
def tellF (S : RS) (s what : Int) : Int := bif isKnownF S s then (if what = 0 then S.row s else if what = 1 then S.frm s else if what = 2 then S.wid s else if what = 3 then S.nai s else if what = 4 then S.crk s else if what = 5 then S.onr s else if what = 6 then holdF S s else uponF S s) else 0
theorem uponL_r {S : RS} {y : Int} : ∀ (n : Nat) (x many last : Int), many ≤ uponL S y n x many last ∧ uponL S y n x many last ≤ many + n := by
  intro n
  induction n with
  | zero => intro x many last; simp [uponL]
  | succ n ih =>
    intro x many last
    simp only [uponL]
    have h1 := ih (x + 1) many last
    have h2 := ih (x + 1) (many + 1) (numberAtF S x y)
    split
    · omega
    · split <;> omega
theorem uponF_r {S : RS} (h : RB S) (s : Int) : 0 ≤ uponF S s ∧ uponF S s ≤ 4 := by
  unfold uponF
  have h1 := uponL_r (S := S) (y := S.row s + 1) (S.wid s).toNat (S.frm s) 0 (-1)
  have h2 := h.frm_r s
  cases isThereF S s
  · simp
  · simp only [cond_true]; omega
theorem holdF_r {S : RS} (h : RB S) (s : Int) : 0 ≤ holdF S s ∧ holdF S s ≤ 17 := by
  unfold holdF
  have h1 := uponF_r h s
  have h2 := h.nai_r s
  cases isThereF S s
  · simp
  · simp only [cond_true]
    have h3 : 0 ≤ (bif onRotF S s then (2 : Int) else 3) * S.nai s + 2 * uponF S s ∧ (bif onRotF S s then (2 : Int) else 3) * S.nai s + 2 * uponF S s ≤ 17 := by
      cases onRotF S s
      · simp only [cond_false]; omega
      · simp only [cond_true]; omega
    split
    · exact h3
    · rw [Int.tdiv_eq_ediv_of_nonneg h3.1]; omega
noncomputable def Tr_X1_isKnown : ATr := fun as h K => match as with
  | [.inr (.inl (some a)), .inl s] => ab_so (ab_roof h a) fun P => (ab_in s) ∧ K (some (.inl (bI (isKnownF P.2 s)))) h
  | _ => False
theorem mo_X1_isKnown : ab_mo Tr_X1_isKnown := by
  intro as h K K' hk ht
  unfold Tr_X1_isKnown at ht ⊢
  split at ht
  · exact ab_so_mo (fun P q => ⟨q.1, hk _ _ q.2⟩) ht
  · exact ht.elim
def ca_X1_isKnown : Nat → Option ACS := ab_lk []
theorem cm_X1_isKnown : ∀ i q, ca_X1_isKnown i = some q → ab_moq i q := ab_lk_all (ab_all_n)
set_option maxRecDepth 100000 in
set_option maxHeartbeats 1000000 in
theorem sem_X1_isKnown (base : Nat) : ab_Sem tbX1 lw_ts base cX1_isKnown ca_X1_isKnown 2 2 0 0 (fun as => ab_en as 2) Tr_X1_isKnown := by
  intro as h K hT V hV
  unfold Tr_X1_isKnown at hT
  split at hT
  · rename_i a s
    obtain ⟨⟨ns, S⟩, hP, hs, hK⟩ := ab_so_el hT
    obtain ⟨hB, n0, n1, n2, n3, n4, n5, n6, n7, n8, rfl, nd, c, c0, c1, c2, c3, c4, c5, c6, c7, c8⟩ := roof_el hP
    dsimp only at hK hs
    show V 0 [some (.inr (.inl (some a))), some (.inl s)] [] h 0 0
    have hl := hB.laid_r
    refine hV (fun _ => false) 40 _ _ _ _ _ _ ?_
    simp only [c, ae_aload_n, ae_getfield, ae_goto, ae_iconst, ae_ifCond, ae_if_icmp, ae_iload_n, ae_ireturn, ae_sipush, dX1_isKnown_0, dX1_isKnown_1, dX1_isKnown_4, dX1_isKnown_5, dX1_isKnown_6, dX1_isKnown_9, dX1_isKnown_12, dX1_isKnown_13, dX1_isKnown_16, dX1_isKnown_19, dX1_isKnown_20, dX1_isKnown_23, dX1_isKnown_24, tbX1_g44, ab_wp0, ab_wps, ab_stp, ab_g, ab_st, ab_k2, ab_cl, ab_pop, ab_sz, ab_2, ab_ret, ab_f4, ab_tg, ab_I, ab_II, ab_A, ab_Rf, ab_VR, ab_IR, ab_VIR, ab_1, ab_LL, ab_DD, ab_ob, ab_pr, ab_qr, ab_ln, ab_so, ab_vI, ab_vA, ab_vD, ab_vL, ab_v2, ab_c, ab_fit, ab_rv, ab_tsw, ab_lsw, ab_up_eq, Fin.isValue, ab_f0, ab_f1, ab_f2, ab_f3, List.getElem?_cons_zero, List.getElem?_cons_succ, List.set_cons_zero, List.set_cons_succ, List.length_cons, List.length_nil, List.size_toArray, List.head?_cons, List.tail_cons, Option.map_some, cond_true, cond_false, true_and, and_true, false_and, and_false, not_true_eq_false, not_false_eq_true, true_imp_iff, false_imp_iff, if_true, if_false, ite_true, ite_false, ↓reduceIte, Nat.reduceAdd, Nat.reduceEqDiff, Nat.reduceLeDiff, Nat.reduceLT, Nat.reduceBEq, Nat.reduceBNe, Int.reduceAdd, Int.reduceNeg, Int.reduceSub, Int.reduceLE, Int.reduceLT, Int.reduceToNat, Int.reduceEq, Int.reduceMul, Int.cast_ofNat_Int, Nat.zero_add, Nat.add_zero, Nat.le_refl, eq_self, ne_eq, reduceCtorEq, or_true, true_or, or_false, false_or, Bool.or_true, Bool.or_false, Bool.true_or, Bool.false_or, Nat.zero_le, Int.le_refl, Int.ofNat_zero, Int.ofNat_one, Bool.false_eq_true]
    simp only [ab_in] at hs ⊢
    by_cases hc : 0 ≤ s ∧ s < S.laid ∧ s < 200
    · simp only [isKnownF, hc, decide_true, bI_t, and_self] at hK
      (repeat' (first | intro _ | refine And.intro ?_ ?_)) <;> (first | exact hK | contradiction | omega | (exfalso; omega))
    · simp only [isKnownF, hc, decide_false, bI_f] at hK
      (repeat' (first | intro _ | refine And.intro ?_ ?_)) <;> (first | exact hK | contradiction | omega | (exfalso; omega))
  · exact hT.elim
set_option maxRecDepth 100000 in
theorem con_X1_isKnown (l : Launch) (D : va_G) (ty : Nat → ClassId) (base : Nat) : ab_Con l D vwCl ty lw_ts base lw_wd yX1_isKnown cX1_isKnown 2 (some .boolean) 0 0 0 0 Tr_X1_isKnown :=
  ab_con_of (own := RX1) (rt := 2) (tb := tbX1) (ini := false) (ca := ca_X1_isKnown) (by decide +kernel) rfl (fun h => by cases h) rfl lw_wd_ok wtbX1 lw_ar cm_X1_isKnown
    (fun p e R s m args below meth c K hcx => by
      obtain ⟨hx, hb, hml, hown, hF, rfl⟩ := hcx
      exact ab_lk_all (ab_all_n))
    (by intro as h K ht; unfold Tr_X1_isKnown at ht; split at ht <;> first | exact ht.elim | exact Nat.le_of_ble_eq_true rfl) (sem_X1_isKnown base)
noncomputable def Tr_X1_isThere : ATr := fun as h K => match as with
  | [.inr (.inl (some a)), .inl s] => ab_so (ab_roof h a) fun P => (ab_in s) ∧ K (some (.inl (bI (isThereF P.2 s)))) h
  | _ => False
theorem mo_X1_isThere : ab_mo Tr_X1_isThere := by
  intro as h K K' hk ht
  unfold Tr_X1_isThere at ht ⊢
  split at ht
  · exact ab_so_mo (fun P q => ⟨q.1, hk _ _ q.2⟩) ht
  · exact ht.elim
def ca_X1_isThere : Nat → Option ACS := ab_lk []
theorem cm_X1_isThere : ∀ i q, ca_X1_isThere i = some q → ab_moq i q := ab_lk_all (ab_all_n)
set_option maxRecDepth 100000 in
set_option maxHeartbeats 1000000 in
theorem sem_X1_isThere (base : Nat) : ab_Sem tbX1 lw_ts base cX1_isThere ca_X1_isThere 2 2 0 0 (fun as => ab_en as 2) Tr_X1_isThere := by
  intro as h K hT V hV
  unfold Tr_X1_isThere at hT
  split at hT
  · rename_i a s
    obtain ⟨⟨ns, S⟩, hP, hs, hK⟩ := ab_so_el hT
    obtain ⟨hB, n0, n1, n2, n3, n4, n5, n6, n7, n8, rfl, nd, c, c0, c1, c2, c3, c4, c5, c6, c7, c8⟩ := roof_el hP
    dsimp only at hK hs
    show V 0 [some (.inr (.inl (some a))), some (.inl s)] [] h 0 0
    have hl := hB.laid_r
    have ho := hB.onr_r s
    refine hV (fun _ => false) 40 _ _ _ _ _ _ ?_
    simp only [c, c7, ae_aload_n, ae_baload, ae_getfield, ae_goto, ae_iconst, ae_ifCond, ae_if_icmp, ae_iload_n, ae_ireturn, ae_sipush, dX1_isThere_0, dX1_isThere_1, dX1_isThere_4, dX1_isThere_5, dX1_isThere_6, dX1_isThere_9, dX1_isThere_12, dX1_isThere_13, dX1_isThere_16, dX1_isThere_19, dX1_isThere_20, dX1_isThere_23, dX1_isThere_24, dX1_isThere_25, dX1_isThere_28, dX1_isThere_29, dX1_isThere_32, dX1_isThere_33, tbX1_g34, tbX1_g44, ab_wp0, ab_wps, ab_stp, ab_g, ab_st, ab_k2, ab_cl, ab_pop, ab_sz, ab_2, ab_ret, ab_f4, ab_tg, ab_I, ab_II, ab_A, ab_Rf, ab_VR, ab_IR, ab_VIR, ab_1, ab_LL, ab_DD, ab_ob, ab_pr, ab_qr, ab_ln, ab_so, ab_vI, ab_vA, ab_vD, ab_vL, ab_v2, ab_c, ab_fit, ab_rv, ab_tsw, ab_lsw, ab_up_eq, Fin.isValue, ab_f0, ab_f1, ab_f2, ab_f3, List.getElem?_cons_zero, List.getElem?_cons_succ, List.set_cons_zero, List.set_cons_succ, List.length_cons, List.length_nil, List.size_toArray, List.head?_cons, List.tail_cons, Option.map_some, cond_true, cond_false, true_and, and_true, false_and, and_false, not_true_eq_false, not_false_eq_true, true_imp_iff, false_imp_iff, if_true, if_false, ite_true, ite_false, ↓reduceIte, Nat.reduceAdd, Nat.reduceEqDiff, Nat.reduceLeDiff, Nat.reduceLT, Nat.reduceBEq, Nat.reduceBNe, Int.reduceAdd, Int.reduceNeg, Int.reduceSub, Int.reduceLE, Int.reduceLT, Int.reduceToNat, Int.reduceEq, Int.reduceMul, Int.cast_ofNat_Int, Nat.zero_add, Nat.add_zero, Nat.le_refl, eq_self, ne_eq, reduceCtorEq, or_true, true_or, or_false, false_or, Bool.or_true, Bool.or_false, Bool.true_or, Bool.false_or, Nat.zero_le, Int.le_refl, Int.ofNat_zero, Int.ofNat_one, Bool.false_eq_true]
    simp only [ab_in] at hs ⊢
    by_cases hc : (0 ≤ s ∧ s < S.laid ∧ s < 200) ∧ S.onr s = 1
    · simp only [isThereF, isKnownF, hc, decide_true, bI_t, and_self, Bool.and_self] at hK
      (repeat' (first | intro _ | refine And.intro ?_ ?_)) <;> (first | exact hK | contradiction | omega | (exfalso; omega))
    · have e : isThereF S s = false := by simp only [isThereF, isKnownF, Bool.and_eq_false_iff, decide_eq_false_iff_not]; omega
      simp only [e, bI_f] at hK
      (repeat' (first | intro _ | refine And.intro ?_ ?_)) <;> (first | exact hK | contradiction | omega | (exfalso; omega))
  · exact hT.elim
set_option maxRecDepth 100000 in
theorem con_X1_isThere (l : Launch) (D : va_G) (ty : Nat → ClassId) (base : Nat) : ab_Con l D vwCl ty lw_ts base lw_wd yX1_isThere cX1_isThere 2 (some .boolean) 0 0 0 0 Tr_X1_isThere :=
  ab_con_of (own := RX1) (rt := 2) (tb := tbX1) (ini := false) (ca := ca_X1_isThere) (by decide +kernel) rfl (fun h => by cases h) rfl lw_wd_ok wtbX1 lw_ar cm_X1_isThere
    (fun p e R s m args below meth c K hcx => by
      obtain ⟨hx, hb, hml, hown, hF, rfl⟩ := hcx
      exact ab_lk_all (ab_all_n))
    (by intro as h K ht; unfold Tr_X1_isThere at ht; split at ht <;> first | exact ht.elim | exact Nat.le_of_ble_eq_true rfl) (sem_X1_isThere base)
noncomputable def Tr_X1_numberAt : ATr := fun as h K => match as with
  | [.inr (.inl (some a)), .inl x, .inl y] => ab_so (ab_roof h a) fun P => (ab_in x ∧ ab_in y) ∧ K (some (.inl (numberAtF P.2 x y))) h
  | _ => False
theorem mo_X1_numberAt : ab_mo Tr_X1_numberAt := by
  intro as h K K' hk ht
  unfold Tr_X1_numberAt at ht ⊢
  split at ht
  · exact ab_so_mo (fun P q => ⟨q.1, hk _ _ q.2⟩) ht
  · exact ht.elim
def ca_X1_numberAt : Nat → Option ACS := ab_lk []
theorem cm_X1_numberAt : ∀ i q, ca_X1_numberAt i = some q → ab_moq i q := ab_lk_all (ab_all_n)
set_option maxRecDepth 100000 in
set_option maxHeartbeats 1000000 in
theorem sem_X1_numberAt (base : Nat) : ab_Sem tbX1 lw_ts base cX1_numberAt ca_X1_numberAt 1 3 0 0 (fun as => ab_en as 3) Tr_X1_numberAt := by
  intro as h K hT V hV
  unfold Tr_X1_numberAt at hT
  split at hT
  · rename_i a x y
    obtain ⟨⟨ns, S⟩, hP, hs, hK⟩ := ab_so_el hT
    obtain ⟨hB, n0, n1, n2, n3, n4, n5, n6, n7, n8, rfl, nd, c, c0, c1, c2, c3, c4, c5, c6, c7, c8⟩ := roof_el hP
    dsimp only at hK hs
    show V 0 [some (.inr (.inl (some a))), some (.inl x), some (.inl y)] [] h 0 0
    refine hV (fun _ => false) 40 _ _ _ _ _ _ ?_
    simp only [c, c0, ae_aload_n, ae_bipush, ae_getfield, ae_iadd, ae_iaload, ae_iconst, ae_ifCond, ae_if_icmp, ae_iload_n, ae_imul, ae_ireturn, dX1_numberAt_0, dX1_numberAt_1, dX1_numberAt_4, dX1_numberAt_5, dX1_numberAt_7, dX1_numberAt_10, dX1_numberAt_11, dX1_numberAt_14, dX1_numberAt_15, dX1_numberAt_17, dX1_numberAt_20, dX1_numberAt_21, dX1_numberAt_22, dX1_numberAt_23, dX1_numberAt_26, dX1_numberAt_28, dX1_numberAt_29, dX1_numberAt_30, dX1_numberAt_31, dX1_numberAt_32, dX1_numberAt_33, tbX1_g9, ab_wp0, ab_wps, ab_stp, ab_g, ab_st, ab_k2, ab_cl, ab_pop, ab_sz, ab_2, ab_ret, ab_f4, ab_tg, ab_I, ab_II, ab_A, ab_Rf, ab_VR, ab_IR, ab_VIR, ab_1, ab_LL, ab_DD, ab_ob, ab_pr, ab_qr, ab_ln, ab_so, ab_vI, ab_vA, ab_vD, ab_vL, ab_v2, ab_c, ab_fit, ab_rv, ab_tsw, ab_lsw, ab_up_eq, Fin.isValue, ab_f0, ab_f1, ab_f2, ab_f3, List.getElem?_cons_zero, List.getElem?_cons_succ, List.set_cons_zero, List.set_cons_succ, List.length_cons, List.length_nil, List.size_toArray, List.head?_cons, List.tail_cons, Option.map_some, cond_true, cond_false, true_and, and_true, false_and, and_false, not_true_eq_false, not_false_eq_true, true_imp_iff, false_imp_iff, if_true, if_false, ite_true, ite_false, ↓reduceIte, Nat.reduceAdd, Nat.reduceEqDiff, Nat.reduceLeDiff, Nat.reduceLT, Nat.reduceBEq, Nat.reduceBNe, Int.reduceAdd, Int.reduceNeg, Int.reduceSub, Int.reduceLE, Int.reduceLT, Int.reduceToNat, Int.reduceEq, Int.reduceMul, Int.cast_ofNat_Int, Nat.zero_add, Nat.add_zero, Nat.le_refl, eq_self, ne_eq, reduceCtorEq, or_true, true_or, or_false, false_or, Bool.or_true, Bool.or_false, Bool.true_or, Bool.false_or, Nat.zero_le, Int.le_refl, Int.ofNat_zero, Int.ofNat_one, Bool.false_eq_true]
    simp only [ab_in] at hs ⊢
    by_cases hc : 0 ≤ x ∧ x < 12 ∧ 0 ≤ y ∧ y < 8
    · simp only [numberAtF, hc, and_self, if_true] at hK
      (repeat' (first | intro _ | refine And.intro ?_ ?_)) <;> (first | exact hK | contradiction | omega | (exfalso; omega))
    · simp only [numberAtF, hc, if_false] at hK
      (repeat' (first | intro _ | refine And.intro ?_ ?_)) <;> (first | exact hK | contradiction | omega | (exfalso; omega))
  · exact hT.elim
set_option maxRecDepth 100000 in
theorem con_X1_numberAt (l : Launch) (D : va_G) (ty : Nat → ClassId) (base : Nat) : ab_Con l D vwCl ty lw_ts base lw_wd yX1_numberAt cX1_numberAt 3 (some .int) 0 0 0 0 Tr_X1_numberAt :=
  ab_con_of (own := RX1) (rt := 1) (tb := tbX1) (ini := false) (ca := ca_X1_numberAt) (by decide +kernel) rfl (fun h => by cases h) rfl lw_wd_ok wtbX1 lw_ar cm_X1_numberAt
    (fun p e R s m args below meth c K hcx => by
      obtain ⟨hx, hb, hml, hown, hF, rfl⟩ := hcx
      exact ab_lk_all (ab_all_n))
    (by intro as h K ht; unfold Tr_X1_numberAt at ht; split at ht <;> first | exact ht.elim | exact Nat.le_of_ble_eq_true rfl) (sem_X1_numberAt base)
noncomputable def Tr_X1_rotAt : ATr := fun as h K => match as with
  | [.inr (.inl (some a)), .inl x, .inl y] => ab_so (ab_roof h a) fun P => (ab_in x ∧ ab_in y) ∧ K (some (.inl (rotAtF P.2 x y))) h
  | _ => False
theorem mo_X1_rotAt : ab_mo Tr_X1_rotAt := by
  intro as h K K' hk ht
  unfold Tr_X1_rotAt at ht ⊢
  split at ht
  · exact ab_so_mo (fun P q => ⟨q.1, hk _ _ q.2⟩) ht
  · exact ht.elim
def ca_X1_rotAt : Nat → Option ACS := ab_lk []
theorem cm_X1_rotAt : ∀ i q, ca_X1_rotAt i = some q → ab_moq i q := ab_lk_all (ab_all_n)
set_option maxRecDepth 100000 in
set_option maxHeartbeats 1000000 in
theorem sem_X1_rotAt (base : Nat) : ab_Sem tbX1 lw_ts base cX1_rotAt ca_X1_rotAt 1 3 0 0 (fun as => ab_en as 3) Tr_X1_rotAt := by
  intro as h K hT V hV
  unfold Tr_X1_rotAt at hT
  split at hT
  · rename_i a x y
    obtain ⟨⟨ns, S⟩, hP, hs, hK⟩ := ab_so_el hT
    obtain ⟨hB, n0, n1, n2, n3, n4, n5, n6, n7, n8, rfl, nd, c, c0, c1, c2, c3, c4, c5, c6, c7, c8⟩ := roof_el hP
    dsimp only at hK hs
    show V 0 [some (.inr (.inl (some a))), some (.inl x), some (.inl y)] [] h 0 0
    refine hV (fun _ => false) 40 _ _ _ _ _ _ ?_
    simp only [c, c1, ae_aload_n, ae_bipush, ae_getfield, ae_iadd, ae_iaload, ae_iconst, ae_ifCond, ae_if_icmp, ae_iload_n, ae_imul, ae_ireturn, dX1_rotAt_0, dX1_rotAt_1, dX1_rotAt_4, dX1_rotAt_5, dX1_rotAt_7, dX1_rotAt_10, dX1_rotAt_11, dX1_rotAt_14, dX1_rotAt_15, dX1_rotAt_17, dX1_rotAt_20, dX1_rotAt_21, dX1_rotAt_22, dX1_rotAt_23, dX1_rotAt_26, dX1_rotAt_28, dX1_rotAt_29, dX1_rotAt_30, dX1_rotAt_31, dX1_rotAt_32, dX1_rotAt_33, tbX1_g15, ab_wp0, ab_wps, ab_stp, ab_g, ab_st, ab_k2, ab_cl, ab_pop, ab_sz, ab_2, ab_ret, ab_f4, ab_tg, ab_I, ab_II, ab_A, ab_Rf, ab_VR, ab_IR, ab_VIR, ab_1, ab_LL, ab_DD, ab_ob, ab_pr, ab_qr, ab_ln, ab_so, ab_vI, ab_vA, ab_vD, ab_vL, ab_v2, ab_c, ab_fit, ab_rv, ab_tsw, ab_lsw, ab_up_eq, Fin.isValue, ab_f0, ab_f1, ab_f2, ab_f3, List.getElem?_cons_zero, List.getElem?_cons_succ, List.set_cons_zero, List.set_cons_succ, List.length_cons, List.length_nil, List.size_toArray, List.head?_cons, List.tail_cons, Option.map_some, cond_true, cond_false, true_and, and_true, false_and, and_false, not_true_eq_false, not_false_eq_true, true_imp_iff, false_imp_iff, if_true, if_false, ite_true, ite_false, ↓reduceIte, Nat.reduceAdd, Nat.reduceEqDiff, Nat.reduceLeDiff, Nat.reduceLT, Nat.reduceBEq, Nat.reduceBNe, Int.reduceAdd, Int.reduceNeg, Int.reduceSub, Int.reduceLE, Int.reduceLT, Int.reduceToNat, Int.reduceEq, Int.reduceMul, Int.cast_ofNat_Int, Nat.zero_add, Nat.add_zero, Nat.le_refl, eq_self, ne_eq, reduceCtorEq, or_true, true_or, or_false, false_or, Bool.or_true, Bool.or_false, Bool.true_or, Bool.false_or, Nat.zero_le, Int.le_refl, Int.ofNat_zero, Int.ofNat_one, Bool.false_eq_true]
    simp only [ab_in] at hs ⊢
    by_cases hc : 0 ≤ x ∧ x < 12 ∧ 0 ≤ y ∧ y < 8
    · simp only [rotAtF, hc, and_self, if_true] at hK
      (repeat' (first | intro _ | refine And.intro ?_ ?_)) <;> (first | exact hK | contradiction | omega | (exfalso; omega))
    · simp only [rotAtF, hc, if_false] at hK
      (repeat' (first | intro _ | refine And.intro ?_ ?_)) <;> (first | exact hK | contradiction | omega | (exfalso; omega))
  · exact hT.elim
set_option maxRecDepth 100000 in
theorem con_X1_rotAt (l : Launch) (D : va_G) (ty : Nat → ClassId) (base : Nat) : ab_Con l D vwCl ty lw_ts base lw_wd yX1_rotAt cX1_rotAt 3 (some .int) 0 0 0 0 Tr_X1_rotAt :=
  ab_con_of (own := RX1) (rt := 1) (tb := tbX1) (ini := false) (ca := ca_X1_rotAt) (by decide +kernel) rfl (fun h => by cases h) rfl lw_wd_ok wtbX1 lw_ar cm_X1_rotAt
    (fun p e R s m args below meth c K hcx => by
      obtain ⟨hx, hb, hml, hown, hF, rfl⟩ := hcx
      exact ab_lk_all (ab_all_n))
    (by intro as h K ht; unfold Tr_X1_rotAt at ht; split at ht <;> first | exact ht.elim | exact Nat.le_of_ble_eq_true rfl) (sem_X1_rotAt base)
noncomputable def Tr_X1_uponIt : ATr := fun as h K => match as with
  | [.inr (.inl (some a)), .inl s] => ab_so (ab_roof h a) fun P => (ab_in s) ∧ K (some (.inl (uponF P.2 s))) h
  | _ => False
theorem mo_X1_uponIt : ab_mo Tr_X1_uponIt := by
  intro as h K K' hk ht
  unfold Tr_X1_uponIt at ht ⊢
  split at ht
  · exact ab_so_mo (fun P q => ⟨q.1, hk _ _ q.2⟩) ht
  · exact ht.elim
def ca_X1_uponIt : Nat → Option ACS := ab_lk [(53, (0, 1, 2, 0, 0, Tr_X1_isThere)), (68, (0, 1, 3, 0, 0, Tr_X1_numberAt))]
theorem ca_X1_uponIt_53 : ca_X1_uponIt 53 = some (0, 1, 2, 0, 0, Tr_X1_isThere) := rfl
theorem ca_X1_uponIt_68 : ca_X1_uponIt 68 = some (0, 1, 3, 0, 0, Tr_X1_numberAt) := rfl
theorem cm_X1_uponIt : ∀ i q, ca_X1_uponIt i = some q → ab_moq i q := ab_lk_all (ab_all_c mo_X1_isThere (ab_all_c mo_X1_numberAt (ab_all_n)))
set_option maxRecDepth 100000 in
set_option maxHeartbeats 1000000 in
theorem sem_X1_uponIt (base : Nat) : ab_Sem tbX1 lw_ts base cX1_uponIt ca_X1_uponIt 1 6 0 0 (fun as => ab_en as 6) Tr_X1_uponIt := by
  intro as h K hT V hV
  unfold Tr_X1_uponIt at hT
  split at hT
  · rename_i a s
    obtain ⟨⟨ns, S⟩, hP, hs, hK⟩ := ab_so_el hT
    obtain ⟨hB, n0, n1, n2, n3, n4, n5, n6, n7, n8, rfl, nd, c, c0, c1, c2, c3, c4, c5, c6, c7, c8⟩ := roof_el hP
    dsimp only at hK hs
    show V 0 [some (.inr (.inl (some a))), some (.inl s), none, none, none, none] [] h 0 0
    have hf := hB.frm_r s
    have hr := hB.row_r s
    by_cases hth : isThereF S s = true
    · obtain ⟨hkn, hon⟩ := isThereF_t hth
      have hk := isKnownF_t hkn
      have hl := hB.laid_r
      simp only [uponF, hth, cond_true] at hK
      have loop : ∀ (n : Nat) (x many last : Int) (w : Option AV), x + n = S.frm s + S.wid s → 0 ≤ x → -1 ≤ last ∧ last < 200 → K (some (.inl (uponL S (S.row s + 1) n x many last))) h → V 22 [some (.inr (.inl (some a))), some (.inl s), some (.inl many), some (.inl last), some (.inl x), w] [] h 0 0 := by
        intro n
        induction n with
        | zero =>
          intro x many last w hx h0 hl2 hk2
          refine hV (fun p => p == 22) 80 _ _ _ _ _ _ ?_
          have he : S.frm s + S.wid s ≤ x := by omega
          simp only [c, c2, c3, c4, he, bI_in, bI_0, bI_1, bI_t, bI_f, bI_01, hP, Tr_X1_numberAt, ae_aload_n, ae_getfield, ae_goto, ae_iadd, ae_iaload, ae_iconst, ae_ifCond, ae_if_icmp, ae_iinc, ae_iload, ae_iload_n, ae_invokevirtual, ae_ireturn, ae_istore, ae_istore_n, dX1_uponIt_0, dX1_uponIt_1, dX1_uponIt_2, dX1_uponIt_5, dX1_uponIt_8, dX1_uponIt_9, dX1_uponIt_10, dX1_uponIt_11, dX1_uponIt_12, dX1_uponIt_13, dX1_uponIt_14, dX1_uponIt_15, dX1_uponIt_18, dX1_uponIt_19, dX1_uponIt_20, dX1_uponIt_22, dX1_uponIt_24, dX1_uponIt_25, dX1_uponIt_28, dX1_uponIt_29, dX1_uponIt_30, dX1_uponIt_31, dX1_uponIt_34, dX1_uponIt_35, dX1_uponIt_36, dX1_uponIt_37, dX1_uponIt_40, dX1_uponIt_41, dX1_uponIt_43, dX1_uponIt_44, dX1_uponIt_47, dX1_uponIt_48, dX1_uponIt_49, dX1_uponIt_50, dX1_uponIt_51, dX1_uponIt_54, dX1_uponIt_56, dX1_uponIt_58, dX1_uponIt_59, dX1_uponIt_62, dX1_uponIt_64, dX1_uponIt_65, dX1_uponIt_68, dX1_uponIt_71, dX1_uponIt_73, dX1_uponIt_74, dX1_uponIt_77, dX1_uponIt_80, dX1_uponIt_81, tbX1_g18, tbX1_g21, tbX1_g24, ca_X1_uponIt_53, ca_X1_uponIt_68, ab_wp0, ab_wps, ab_stp, ab_g, ab_st, ab_k2, ab_cl, ab_pop, ab_sz, ab_2, ab_ret, ab_f4, ab_tg, ab_I, ab_II, ab_A, ab_Rf, ab_VR, ab_IR, ab_VIR, ab_1, ab_LL, ab_DD, ab_ob, ab_pr, ab_qr, ab_ln, ab_so, ab_vI, ab_vA, ab_vD, ab_vL, ab_v2, ab_c, ab_fit, ab_rv, ab_tsw, ab_lsw, ab_up_eq, Fin.isValue, ab_f0, ab_f1, ab_f2, ab_f3, List.getElem?_cons_zero, List.getElem?_cons_succ, List.set_cons_zero, List.set_cons_succ, List.length_cons, List.length_nil, List.size_toArray, List.head?_cons, List.tail_cons, Option.map_some, cond_true, cond_false, true_and, and_true, false_and, and_false, not_true_eq_false, not_false_eq_true, true_imp_iff, false_imp_iff, if_true, if_false, ite_true, ite_false, ↓reduceIte, Nat.reduceAdd, Nat.reduceEqDiff, Nat.reduceLeDiff, Nat.reduceLT, Nat.reduceBEq, Nat.reduceBNe, Int.reduceAdd, Int.reduceNeg, Int.reduceSub, Int.reduceLE, Int.reduceLT, Int.reduceToNat, Int.reduceEq, Int.reduceMul, Int.cast_ofNat_Int, Nat.zero_add, Nat.add_zero, Nat.le_refl, eq_self, ne_eq, reduceCtorEq, or_true, true_or, or_false, false_or, Bool.or_true, Bool.or_false, Bool.true_or, Bool.false_or, Nat.zero_le, Int.le_refl, Int.ofNat_zero, Int.ofNat_one, Bool.false_eq_true]
          simp only [ab_in, uponL] at hs hk2 ⊢
          (repeat' (first | intro _ | refine And.intro ?_ ?_)) <;> (first | exact hk2 | contradiction | omega | (exfalso; omega))
        | succ n ih =>
          intro x many last w hx h0 hl2 hk2
          refine hV (fun p => p == 22) 80 _ _ _ _ _ _ ?_
          have he : ¬ S.frm s + S.wid s ≤ x := by omega
          have hn := numberAtF_r hB x (S.row s + 1)
          simp only [uponL] at hk2
          have ih1 := ih (x + 1) many last (some (.inl (numberAtF S x (S.row s + 1)))) (by omega) (by omega) hl2
          have ih2 := ih (x + 1) (many + 1) (numberAtF S x (S.row s + 1)) (some (.inl (numberAtF S x (S.row s + 1)))) (by omega) (by omega) hn
          simp only [c, c2, c3, c4, he, bI_in, bI_0, bI_1, bI_t, bI_f, bI_01, hP, Tr_X1_numberAt, ae_aload_n, ae_getfield, ae_goto, ae_iadd, ae_iaload, ae_iconst, ae_ifCond, ae_if_icmp, ae_iinc, ae_iload, ae_iload_n, ae_invokevirtual, ae_ireturn, ae_istore, ae_istore_n, dX1_uponIt_0, dX1_uponIt_1, dX1_uponIt_2, dX1_uponIt_5, dX1_uponIt_8, dX1_uponIt_9, dX1_uponIt_10, dX1_uponIt_11, dX1_uponIt_12, dX1_uponIt_13, dX1_uponIt_14, dX1_uponIt_15, dX1_uponIt_18, dX1_uponIt_19, dX1_uponIt_20, dX1_uponIt_22, dX1_uponIt_24, dX1_uponIt_25, dX1_uponIt_28, dX1_uponIt_29, dX1_uponIt_30, dX1_uponIt_31, dX1_uponIt_34, dX1_uponIt_35, dX1_uponIt_36, dX1_uponIt_37, dX1_uponIt_40, dX1_uponIt_41, dX1_uponIt_43, dX1_uponIt_44, dX1_uponIt_47, dX1_uponIt_48, dX1_uponIt_49, dX1_uponIt_50, dX1_uponIt_51, dX1_uponIt_54, dX1_uponIt_56, dX1_uponIt_58, dX1_uponIt_59, dX1_uponIt_62, dX1_uponIt_64, dX1_uponIt_65, dX1_uponIt_68, dX1_uponIt_71, dX1_uponIt_73, dX1_uponIt_74, dX1_uponIt_77, dX1_uponIt_80, dX1_uponIt_81, tbX1_g18, tbX1_g21, tbX1_g24, ca_X1_uponIt_53, ca_X1_uponIt_68, ab_wp0, ab_wps, ab_stp, ab_g, ab_st, ab_k2, ab_cl, ab_pop, ab_sz, ab_2, ab_ret, ab_f4, ab_tg, ab_I, ab_II, ab_A, ab_Rf, ab_VR, ab_IR, ab_VIR, ab_1, ab_LL, ab_DD, ab_ob, ab_pr, ab_qr, ab_ln, ab_so, ab_vI, ab_vA, ab_vD, ab_vL, ab_v2, ab_c, ab_fit, ab_rv, ab_tsw, ab_lsw, ab_up_eq, Fin.isValue, ab_f0, ab_f1, ab_f2, ab_f3, List.getElem?_cons_zero, List.getElem?_cons_succ, List.set_cons_zero, List.set_cons_succ, List.length_cons, List.length_nil, List.size_toArray, List.head?_cons, List.tail_cons, Option.map_some, cond_true, cond_false, true_and, and_true, false_and, and_false, not_true_eq_false, not_false_eq_true, true_imp_iff, false_imp_iff, if_true, if_false, ite_true, ite_false, ↓reduceIte, Nat.reduceAdd, Nat.reduceEqDiff, Nat.reduceLeDiff, Nat.reduceLT, Nat.reduceBEq, Nat.reduceBNe, Int.reduceAdd, Int.reduceNeg, Int.reduceSub, Int.reduceLE, Int.reduceLT, Int.reduceToNat, Int.reduceEq, Int.reduceMul, Int.cast_ofNat_Int, Nat.zero_add, Nat.add_zero, Nat.le_refl, eq_self, ne_eq, reduceCtorEq, or_true, true_or, or_false, false_or, Bool.or_true, Bool.or_false, Bool.true_or, Bool.false_or, Nat.zero_le, Int.le_refl, Int.ofNat_zero, Int.ofNat_one, Bool.false_eq_true]
          by_cases h1 : numberAtF S x (S.row s + 1) = -1
          · simp only [h1, if_true] at hk2 ih1 ⊢
            simp only [ab_in] at hs ⊢
            (repeat' (first | intro _ | refine And.intro ?_ ?_)) <;> (first | exact ih1 hk2 | contradiction | omega | (exfalso; omega))
          · simp only [h1, if_false] at hk2
            by_cases h2 : numberAtF S x (S.row s + 1) = last
            · simp only [h2, if_true] at hk2 ih1 h1 ⊢
              simp only [ab_in, h1, not_false_eq_true, not_true_eq_false, true_imp_iff, false_imp_iff, true_and, and_true, if_true, if_false, eq_self] at hs ⊢
              (repeat' (first | intro _ | refine And.intro ?_ ?_)) <;> (first | exact ih1 hk2 | contradiction | omega | (exfalso; omega))
            · simp only [h2, if_false] at hk2
              simp only [ab_in, h1, h2, not_false_eq_true, not_true_eq_false, true_imp_iff, false_imp_iff, true_and, and_true, if_true, if_false, eq_self] at hs ⊢
              (repeat' (first | intro _ | refine And.intro ?_ ?_)) <;> (first | exact ih2 hk2 | contradiction | omega | (exfalso; omega))
      refine hV (fun p => p == 22) 80 _ _ _ _ _ _ ?_
      have l0 := loop (S.wid s).toNat (S.frm s) 0 (-1) none (by omega) (by omega) (by omega) hK
      simp only [c, c2, c3, c4, hth, bI_in, bI_0, bI_1, bI_t, bI_f, bI_01, hP, Tr_X1_isThere, ae_aload_n, ae_getfield, ae_goto, ae_iadd, ae_iaload, ae_iconst, ae_ifCond, ae_if_icmp, ae_iinc, ae_iload, ae_iload_n, ae_invokevirtual, ae_ireturn, ae_istore, ae_istore_n, dX1_uponIt_0, dX1_uponIt_1, dX1_uponIt_2, dX1_uponIt_5, dX1_uponIt_8, dX1_uponIt_9, dX1_uponIt_10, dX1_uponIt_11, dX1_uponIt_12, dX1_uponIt_13, dX1_uponIt_14, dX1_uponIt_15, dX1_uponIt_18, dX1_uponIt_19, dX1_uponIt_20, dX1_uponIt_22, dX1_uponIt_24, dX1_uponIt_25, dX1_uponIt_28, dX1_uponIt_29, dX1_uponIt_30, dX1_uponIt_31, dX1_uponIt_34, dX1_uponIt_35, dX1_uponIt_36, dX1_uponIt_37, dX1_uponIt_40, dX1_uponIt_41, dX1_uponIt_43, dX1_uponIt_44, dX1_uponIt_47, dX1_uponIt_48, dX1_uponIt_49, dX1_uponIt_50, dX1_uponIt_51, dX1_uponIt_54, dX1_uponIt_56, dX1_uponIt_58, dX1_uponIt_59, dX1_uponIt_62, dX1_uponIt_64, dX1_uponIt_65, dX1_uponIt_68, dX1_uponIt_71, dX1_uponIt_73, dX1_uponIt_74, dX1_uponIt_77, dX1_uponIt_80, dX1_uponIt_81, tbX1_g18, tbX1_g21, tbX1_g24, ca_X1_uponIt_53, ca_X1_uponIt_68, ab_wp0, ab_wps, ab_stp, ab_g, ab_st, ab_k2, ab_cl, ab_pop, ab_sz, ab_2, ab_ret, ab_f4, ab_tg, ab_I, ab_II, ab_A, ab_Rf, ab_VR, ab_IR, ab_VIR, ab_1, ab_LL, ab_DD, ab_ob, ab_pr, ab_qr, ab_ln, ab_so, ab_vI, ab_vA, ab_vD, ab_vL, ab_v2, ab_c, ab_fit, ab_rv, ab_tsw, ab_lsw, ab_up_eq, Fin.isValue, ab_f0, ab_f1, ab_f2, ab_f3, List.getElem?_cons_zero, List.getElem?_cons_succ, List.set_cons_zero, List.set_cons_succ, List.length_cons, List.length_nil, List.size_toArray, List.head?_cons, List.tail_cons, Option.map_some, cond_true, cond_false, true_and, and_true, false_and, and_false, not_true_eq_false, not_false_eq_true, true_imp_iff, false_imp_iff, if_true, if_false, ite_true, ite_false, ↓reduceIte, Nat.reduceAdd, Nat.reduceEqDiff, Nat.reduceLeDiff, Nat.reduceLT, Nat.reduceBEq, Nat.reduceBNe, Int.reduceAdd, Int.reduceNeg, Int.reduceSub, Int.reduceLE, Int.reduceLT, Int.reduceToNat, Int.reduceEq, Int.reduceMul, Int.cast_ofNat_Int, Nat.zero_add, Nat.add_zero, Nat.le_refl, eq_self, ne_eq, reduceCtorEq, or_true, true_or, or_false, false_or, Bool.or_true, Bool.or_false, Bool.true_or, Bool.false_or, Nat.zero_le, Int.le_refl, Int.ofNat_zero, Int.ofNat_one, Bool.false_eq_true]
      simp only [ab_in] at hs ⊢
      (repeat' (first | intro _ | refine And.intro ?_ ?_)) <;> (first | exact l0 | contradiction | omega | (exfalso; omega))
    · simp only [uponF, hth, cond_false] at hK
      refine hV (fun p => p == 22) 80 _ _ _ _ _ _ ?_
      simp only [c, hth, bI_in, bI_0, bI_1, bI_t, bI_f, bI_01, hP, Tr_X1_isThere, ae_aload_n, ae_getfield, ae_goto, ae_iadd, ae_iaload, ae_iconst, ae_ifCond, ae_if_icmp, ae_iinc, ae_iload, ae_iload_n, ae_invokevirtual, ae_ireturn, ae_istore, ae_istore_n, dX1_uponIt_0, dX1_uponIt_1, dX1_uponIt_2, dX1_uponIt_5, dX1_uponIt_8, dX1_uponIt_9, dX1_uponIt_10, dX1_uponIt_11, dX1_uponIt_12, dX1_uponIt_13, dX1_uponIt_14, dX1_uponIt_15, dX1_uponIt_18, dX1_uponIt_19, dX1_uponIt_20, dX1_uponIt_22, dX1_uponIt_24, dX1_uponIt_25, dX1_uponIt_28, dX1_uponIt_29, dX1_uponIt_30, dX1_uponIt_31, dX1_uponIt_34, dX1_uponIt_35, dX1_uponIt_36, dX1_uponIt_37, dX1_uponIt_40, dX1_uponIt_41, dX1_uponIt_43, dX1_uponIt_44, dX1_uponIt_47, dX1_uponIt_48, dX1_uponIt_49, dX1_uponIt_50, dX1_uponIt_51, dX1_uponIt_54, dX1_uponIt_56, dX1_uponIt_58, dX1_uponIt_59, dX1_uponIt_62, dX1_uponIt_64, dX1_uponIt_65, dX1_uponIt_68, dX1_uponIt_71, dX1_uponIt_73, dX1_uponIt_74, dX1_uponIt_77, dX1_uponIt_80, dX1_uponIt_81, tbX1_g18, tbX1_g21, tbX1_g24, ca_X1_uponIt_53, ca_X1_uponIt_68, ab_wp0, ab_wps, ab_stp, ab_g, ab_st, ab_k2, ab_cl, ab_pop, ab_sz, ab_2, ab_ret, ab_f4, ab_tg, ab_I, ab_II, ab_A, ab_Rf, ab_VR, ab_IR, ab_VIR, ab_1, ab_LL, ab_DD, ab_ob, ab_pr, ab_qr, ab_ln, ab_so, ab_vI, ab_vA, ab_vD, ab_vL, ab_v2, ab_c, ab_fit, ab_rv, ab_tsw, ab_lsw, ab_up_eq, Fin.isValue, ab_f0, ab_f1, ab_f2, ab_f3, List.getElem?_cons_zero, List.getElem?_cons_succ, List.set_cons_zero, List.set_cons_succ, List.length_cons, List.length_nil, List.size_toArray, List.head?_cons, List.tail_cons, Option.map_some, cond_true, cond_false, true_and, and_true, false_and, and_false, not_true_eq_false, not_false_eq_true, true_imp_iff, false_imp_iff, if_true, if_false, ite_true, ite_false, ↓reduceIte, Nat.reduceAdd, Nat.reduceEqDiff, Nat.reduceLeDiff, Nat.reduceLT, Nat.reduceBEq, Nat.reduceBNe, Int.reduceAdd, Int.reduceNeg, Int.reduceSub, Int.reduceLE, Int.reduceLT, Int.reduceToNat, Int.reduceEq, Int.reduceMul, Int.cast_ofNat_Int, Nat.zero_add, Nat.add_zero, Nat.le_refl, eq_self, ne_eq, reduceCtorEq, or_true, true_or, or_false, false_or, Bool.or_true, Bool.or_false, Bool.true_or, Bool.false_or, Nat.zero_le, Int.le_refl, Int.ofNat_zero, Int.ofNat_one, Bool.false_eq_true]
      simp only [ab_in] at hs ⊢
      (repeat' (first | intro _ | refine And.intro ?_ ?_)) <;> (first | exact hK | contradiction | omega | (exfalso; omega))
  · exact hT.elim
set_option maxRecDepth 100000 in
theorem con_X1_uponIt (l : Launch) (D : va_G) (ty : Nat → ClassId) (base : Nat) : ab_Con l D vwCl ty lw_ts base lw_wd yX1_uponIt cX1_uponIt 6 (some .int) 1 22 0 0 Tr_X1_uponIt :=
  ab_con_of (own := RX1) (rt := 1) (tb := tbX1) (ini := false) (ca := ca_X1_uponIt) (by decide +kernel) rfl (fun h => by cases h) rfl lw_wd_ok wtbX1 lw_ar cm_X1_uponIt
    (fun p e R s m args below meth c K hcx => by
      obtain ⟨hx, hb, hml, hown, hF, rfl⟩ := hcx
      exact ab_lk_all (ab_all_c (ab_tc_V hx hb hml hown lw_wd_ok hF ⟨rfl, rfl⟩ (con_X1_isThere l D ty base) rfl (lw_wi (by decide +kernel) (by decide +kernel)) (lw_wi (by decide +kernel) (by decide +kernel)) (lw_wi (by decide +kernel) (by decide +kernel)) (lw_wi (by decide +kernel) (by decide +kernel)) (lw_wi (by decide +kernel) (by decide +kernel)) (by decide +kernel) ⟨by decide, by decide⟩) (ab_all_c (ab_tc_V hx hb hml hown lw_wd_ok hF ⟨rfl, rfl⟩ (con_X1_numberAt l D ty base) rfl (lw_wi (by decide +kernel) (by decide +kernel)) (lw_wi (by decide +kernel) (by decide +kernel)) (lw_wi (by decide +kernel) (by decide +kernel)) (lw_wi (by decide +kernel) (by decide +kernel)) (lw_wi (by decide +kernel) (by decide +kernel)) (by decide +kernel) ⟨by decide, by decide⟩) (ab_all_n))))
    (by intro as h K ht; unfold Tr_X1_uponIt at ht; split at ht <;> first | exact ht.elim | exact Nat.le_of_ble_eq_true rfl) (sem_X1_uponIt base)
