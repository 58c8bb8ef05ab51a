/-! ===== the law's own roof: a day goes by ===== -/
theorem stormL_o {force right : Int} : ∀ (n : Nat) (M : SM), (stormL force right n M).n = M.n ∧ (stormL force right n M).rt = M.rt ∧ (stormL force right n M).dy = M.dy ∧ (stormL force right n M).day = M.day := by
  intro n
  induction n with
  | zero => intro M; exact ⟨rfl, rfl, rfl, rfl⟩
  | succ n ih =>
    intro M
    simp only [stormL]
    cases anyR (goesS M force right) M.n 0
    · exact ⟨rfl, rfl, rfl, rfl⟩
    · exact ih (offS M (goesS M force right) M.n)
theorem stormS_o (M : SM) (force right : Int) : (stormS M force right).n = M.n ∧ (stormS M force right).rt = M.rt ∧ (stormS M force right).dy = M.dy ∧ (stormS M force right).day = M.day := by
  unfold stormS
  split
  · exact ⟨rfl, rfl, rfl, rfl⟩
  · exact stormL_o _ _
def bareS (M : SM) (f : Int → Int) (x : Int) : Bool := !anyR (fun j => meetsF (M.sl j) (f 0 + 1) x 1) M.n 0
def crkG (M : SM) (hail k : Int) : Bool := decide (¬ M.sl k 5 = 0 ∧ M.sl k 3 + 4 ≤ hail) && anyR (bareS M (M.sl k)) (M.sl k 2).toNat (M.sl k 1)
def crkF (s : Int → Int → Int) (g : Int → Bool) (x : Int) : Int → Int → Int := fun k => if 0 ≤ k ∧ k < x ∧ g k = true then ab_uf (s k) 4 1 else s k
def crkS (M : SM) (hail : Int) : SM := M.s_sl (crkF M.sl (crkG M hail) M.n)
def rotG (M : SM) (rain x y : Int) : Int := if 5 < comesS M rain x (7 - y).toNat ∧ M.rt x y < 9 then M.rt x y + 1 else M.rt x y
def rotP (M : SM) (rain t : Int) : Int → Int → Int := fun x y => if (0 ≤ x ∧ x ≤ 11 ∧ 0 ≤ y ∧ y ≤ 7) ∧ 8 * x + y < t then rotG M rain x y else M.rt x y
def rotU (M : SM) (rain : Int) : SM := M.s_rt (rotP M rain 96)
def passS (M : SM) : SM := let d := M.dy (M.day % 7); let Q := rotU (crkS (stormS M (d 0) (d 1)) (d 2)) (d 3); Q.s_day (Q.day + 1)
theorem meets_4 (f : Int → Int) (v r x w : Int) : meetsF (ab_uf f 4 v) r x w = meetsF f r x w := rfl
/-- a slate on its way: cracked already or not -/
def crkC (s : Int → Int → Int) (g : Int → Bool) (k : Int) (c : Bool) : Int → Int → Int := ab_uf (crkF s g k) k (bif c then ab_uf (s k) 4 1 else s k)
theorem crkC_m (s : Int → Int → Int) (g : Int → Bool) (k : Int) (c : Bool) (j r x w : Int) : meetsF (crkC s g k c j) r x w = meetsF (s j) r x w := by
  simp only [crkC, crkF, ab_uf]
  split
  · rename_i e; subst e; cases c <;> rfl
  · split <;> rfl
theorem crkC_f (s : Int → Int → Int) (g : Int → Bool) (k : Nat) : crkC s g k false = crkF s g k := by
  funext j
  simp only [crkC, ab_uf, cond_false]
  split
  · rename_i e; subst e; simp only [crkF]; rw [if_neg (by omega)]
  · rfl
theorem crkC_k (s : Int → Int → Int) (g : Int → Bool) (k : Nat) : crkC s g k (g k) = crkF s g ((k : Int) + 1) := by
  funext j
  simp only [crkC, ab_uf, crkF]
  by_cases hj : j = (k : Int)
  · subst hj
    rw [if_pos rfl]
    cases hg : g (k : Int)
    · rw [if_neg (fun q => by cases q.2.2)]; rfl
    · rw [if_pos ⟨by omega, by omega, rfl⟩]; rfl
  · rw [if_neg hj]
    by_cases h2 : 0 ≤ j ∧ j < (k : Int) ∧ g j = true
    · rw [if_pos h2, if_pos ⟨h2.1, by omega, h2.2.2⟩]
    · rw [if_neg h2, if_neg (fun q => h2 ⟨q.1, by omega, q.2.2⟩)]
theorem crkC_at (s : Int → Int → Int) (g : Int → Bool) (k : Int) (c : Bool) : crkC s g k c k = bif c then ab_uf (s k) 4 1 else s k := by
  simp only [crkC, ab_uf, if_true]
theorem crkC_i (f : Int → Int) (c : Bool) : (bif c then ab_uf f 4 1 else f) 0 = f 0 ∧ (bif c then ab_uf f 4 1 else f) 1 = f 1 ∧ (bif c then ab_uf f 4 1 else f) 2 = f 2 ∧ (bif c then ab_uf f 4 1 else f) 3 = f 3 ∧ (bif c then ab_uf f 4 1 else f) 5 = f 5 := by
  cases c <;> exact ⟨rfl, rfl, rfl, rfl, rfl⟩
theorem crkC_w (s : Int → Int → Int) (g : Int → Bool) (k : Int) (c : Bool) : ab_uf (crkC s g k c) k (ab_uf (bif c then ab_uf (s k) 4 1 else s k) 4 1) = crkC s g k true := by
  funext j
  simp only [crkC, ab_uf]
  split
  · rename_i e; subst e
    funext i
    cases c
    · simp only [cond_false, cond_true, if_true]
    · simp only [cond_true, if_true, ab_uf]
      split <;> rfl
  · rfl
theorem comesS_rt (M : SM) (v : Int → Int → Int) (rain x : Int) : ∀ d, comesS (M.s_rt v) rain x d = comesS M rain x d := by
  intro d
  induction d with
  | zero => rfl
  | succ d ih =>
    simp only [comesS, ih]
    rfl
theorem rotG_r {M : SM} (h : ∀ x y, 0 ≤ M.rt x y ∧ M.rt x y ≤ 9) (rain x y : Int) : 0 ≤ rotG M rain x y ∧ rotG M rain x y ≤ 9 := by
  have := h x y
  unfold rotG
  split <;> omega
theorem rotP_r {M : SM} (h : ∀ x y, 0 ≤ M.rt x y ∧ M.rt x y ≤ 9) (rain t x y : Int) : 0 ≤ rotP M rain t x y ∧ rotP M rain t x y ≤ 9 := by
  simp only [rotP]
  split
  · exact rotG_r h rain x y
  · exact h x y
theorem rotP_at (M : SM) (rain x y : Int) : rotP M rain (8 * x + y) x y = M.rt x y := by
  simp only [rotP]
  rw [if_neg (by omega)]
theorem rotP_s {M : SM} {rain x y : Int} (hb : 0 ≤ x ∧ x ≤ 11 ∧ 0 ≤ y ∧ y ≤ 7) {v : Int} (hv : v = rotG M rain x y) : ab_uf (rotP M rain (8 * x + y)) x (ab_uf (rotP M rain (8 * x + y) x) y v) = rotP M rain (8 * x + (y + 1)) := by
  subst hv
  funext i j
  simp only [ab_uf]
  by_cases hi : i = x
  · subst hi
    rw [if_pos rfl]
    simp only [ab_uf, rotP]
    by_cases hj : j = y
    · subst hj
      rw [if_pos rfl, if_pos ⟨hb, by omega⟩]
    · rw [if_neg hj]
      by_cases h2 : (0 ≤ i ∧ i ≤ 11 ∧ 0 ≤ j ∧ j ≤ 7) ∧ 8 * i + j < 8 * i + y
      · rw [if_pos h2, if_pos ⟨h2.1, by omega⟩]
      · rw [if_neg h2, if_neg (fun q => h2 ⟨q.1, by omega⟩)]
  · rw [if_neg hi]
    simp only [rotP]
    by_cases h2 : (0 ≤ i ∧ i ≤ 11 ∧ 0 ≤ j ∧ j ≤ 7) ∧ 8 * i + j < 8 * x + y
    · rw [if_pos h2, if_pos ⟨h2.1, by omega⟩]
    · rw [if_neg h2, if_neg (fun q => h2 ⟨q.1, by omega⟩)]
theorem rotP_n {M : SM} {rain x y : Int} (hb : 0 ≤ x ∧ x ≤ 11 ∧ 0 ≤ y ∧ y ≤ 7) (hv : M.rt x y = rotG M rain x y) : rotP M rain (8 * x + y) = rotP M rain (8 * x + (y + 1)) := by
  rw [← rotP_s hb hv]
  funext i j
  simp only [ab_uf]
  split
  · rename_i e; subst e
    simp only [ab_uf]
    split
    · rename_i e; subst e; exact rotP_at _ _ _ _
    · rfl
  · rfl
theorem rotP_0 (M : SM) (rain : Int) : rotP M rain 0 = M.rt := by
  funext i j
  simp only [rotP]
  rw [if_neg (by omega)]
noncomputable def Tr_X4_pass : ATr := fun as h K => match as with
  | [.inr (.inl (some a))] => ab_so (ab_sim h a) fun P => (onS P.2 0 ≤ 60 ∧ P.2.tk ≤ 99000 ∧ P.2.day < 1000) ∧ ∀ h', ab_sim h' a = some (P.1, passS P.2) → ab_fo h h' (simIn P.1 a) → K none h'
  | _ => False
theorem mo_X4_pass : ab_mo Tr_X4_pass := by
  intro as h K K' hk ht
  unfold Tr_X4_pass at ht ⊢
  split at ht
  · exact ab_so_mo (fun _ q => ⟨q.1, fun h' e1 e2 => hk _ _ (q.2 h' e1 e2)⟩) ht
  · exact ht.elim
def ca_X4_pass : Nat → Option ACS := ab_lk [(57, (0, 4, 3, 61, 12200, Tr_X4_storm)), (31, (2, 0, 4, 0, 0, Tr_X4_meets)), (53, (0, 4, 4, 0, 0, Tr_X4_comes))]
theorem ca_X4_pass_57 : ca_X4_pass 57 = some (0, 4, 3, 61, 12200, Tr_X4_storm) := rfl
theorem ca_X4_pass_31 : ca_X4_pass 31 = some (2, 0, 4, 0, 0, Tr_X4_meets) := rfl
theorem ca_X4_pass_53 : ca_X4_pass 53 = some (0, 4, 4, 0, 0, Tr_X4_comes) := rfl
theorem cm_X4_pass : ∀ i q, ca_X4_pass i = some q → ab_moq i q := ab_lk_all (ab_all_c mo_X4_storm (ab_all_c mo_X4_meets (ab_all_c mo_X4_comes (ab_all_n))))
set_option maxRecDepth 100000 in
set_option maxHeartbeats 4000000 in
theorem pass_j {base : Nat} {K : Option AV → AH → Prop} {V : AVt} {h h2 : AH} {a : Nat} {N : SN} {M : SM} {q : Nat} {k z : Nat} (hV : ab_Hv tbX4 lw_ts base cX4_pass ca_X4_pass 0 61 12200 K V) (hkz : k ≤ 61 ∧ z ≤ 12200) {p : Nat} {f : Int → Int} {kk x : Int} {U : Bool} (g1 : simAt h2 a (N, M)) (hpc : h2 p = some (.inr (.inl (0, 6, f)))) (hf : 0 ≤ f 0 ∧ f 0 ≤ 7) (hx : 0 ≤ x ∧ x ≤ 11)
    (hE : ∀ j w, V 164 [some (.inr (.inl (some a))), some (.inr (.inl (some q))), some (.inr (.inl (some N.1))), some (.inl (M.n : Int)), some (.inl (kk)), some (.inr (.inl (some p))), some (.inl (x)), some (.inl (bI U)), some (.inr (.inl (some N.1))), some (.inl (M.n : Int)), some (.inl (j)), w] [] h2 k z) :
    ∀ (m : Nat) (j : Int) (u : Bool) (w : Option AV), j + m = M.n → 0 ≤ j → (u || anyR (fun j => meetsF (M.sl j) (f 0 + 1) x 1) m j) = U → V 115 [some (.inr (.inl (some a))), some (.inr (.inl (some q))), some (.inr (.inl (some N.1))), some (.inl (M.n : Int)), some (.inl (kk)), some (.inr (.inl (some p))), some (.inl (x)), some (.inl (bI u)), some (.inr (.inl (some N.1))), some (.inl (M.n : Int)), some (.inl (j)), w] [] h2 k z := by
  intro m
  induction m with
  | zero =>
    intro j u w hj h0 hu
    have hle : (M.n : Int) ≤ j := by omega
    have hn0 : M.n ≤ 200 := g1.1.2.2.2.1
    have hj9 : j = M.n := by omega
    have hjr : 0 ≤ j ∧ j ≤ 200 := by omega
    have i0 := hE j w
    simp only [anyR, Bool.or_false] at hu
    subst hu
    refine hV (fun p => bif p == 33 then true else bif p == 44 then true else bif p == 84 then true else bif p == 115 then true else bif p == 164 then true else bif p == 180 then true else bif p == 188 then true else bif p == 196 then true else bif p == 240 then true else p == 252) 80 _ _ _ _ _ _ ?_
    simp only [hle, bI_in, bI_0, bI_1, bI_t, bI_f, bI_01, ae_aaload, ae_aload, ae_astore, ae_goto, ae_iadd, ae_iaload, ae_iconst, ae_ifCond, ae_if_icmp, ae_iinc, ae_iload, ae_invokestatic, ae_istore, dX4_pass_115, dX4_pass_117, dX4_pass_119, dX4_pass_122, dX4_pass_124, dX4_pass_126, dX4_pass_127, dX4_pass_129, dX4_pass_131, dX4_pass_134, dX4_pass_136, dX4_pass_138, dX4_pass_139, dX4_pass_140, dX4_pass_141, dX4_pass_142, dX4_pass_144, dX4_pass_145, dX4_pass_148, dX4_pass_151, dX4_pass_152, dX4_pass_155, dX4_pass_156, dX4_pass_158, dX4_pass_161, ca_X4_pass_57, ca_X4_pass_31, ca_X4_pass_53, ab_wp0, ab_wps, ab_stp, ab_g, ab_st, ab_k2, ab_cl, ab_pop, ab_sz, ab_2, ab_ret, ab_f4, ab_tg, ab_I, ab_II, ab_A, ab_Rf, ab_VR, ab_IR, ab_VIR, ab_1, ab_LL, ab_DD, ab_ob, ab_pr, ab_qr, ab_ln, ab_so, ab_vI, ab_vA, ab_vD, ab_vL, ab_v2, ab_c, ab_fit, ab_rv, ab_tsw, ab_lsw, ab_up_eq, Fin.isValue, ab_f0, ab_f1, ab_f2, ab_f3, List.getElem?_cons_zero, List.getElem?_cons_succ, List.set_cons_zero, List.set_cons_succ, List.length_cons, List.length_nil, List.size_toArray, List.head?_cons, List.tail_cons, Option.map_some, cond_true, cond_false, true_and, and_true, false_and, and_false, not_true_eq_false, not_false_eq_true, true_imp_iff, false_imp_iff, if_true, if_false, ite_true, ite_false, ↓reduceIte, Nat.reduceAdd, Nat.reduceEqDiff, Nat.reduceLeDiff, Nat.reduceLT, Nat.reduceBEq, Nat.reduceBNe, Int.reduceAdd, Int.reduceNeg, Int.reduceSub, Int.reduceLE, Int.reduceLT, Int.reduceToNat, Int.reduceEq, Int.reduceMul, Int.cast_ofNat_Int, Nat.zero_add, Nat.add_zero, Nat.le_refl, eq_self, ne_eq, reduceCtorEq, or_true, true_or, or_false, false_or, Bool.or_true, Bool.or_false, Bool.true_or, Bool.false_or, Nat.zero_le, Int.le_refl, Int.ofNat_zero, Int.ofNat_one, Bool.false_eq_true]
    try simp only [ab_in]
    (repeat' (first | intro _ | refine And.intro ?_ ?_)) <;> (first | exact i0 | contradiction | omega | (exfalso; omega))
  | succ m ih =>
    intro j u w hj h0 hu
    obtain ⟨mb, D, nd, D0, D1, D2, r0, r1, r2⟩ := id g1
    have hsl0 := mb.1
    have hn0 := mb.2.2.2.1
    dsimp only at D D0 D1 D2 r0 r1 r2 hsl0 hn0
    have hlt : ¬ (M.n : Int) ≤ j := by omega
    obtain ⟨p2, hp, hpc2⟩ := r0.1 j h0 (by omega)
    have hT1 : slB (M.sl j) = True := eq_true (hsl0 j)
    simp only [anyR] at hu
    cases hu2 : u
    · rw [hu2, Bool.false_or] at hu
      cases hm : meetsF (M.sl j) (f 0 + 1) x 1
      · rw [hm, Bool.false_or] at hu
        have i0 := ih (j + 1) false (some (.inr (.inl (some p2)))) (by omega) (by omega) (by rw [Bool.false_or]; exact hu)
        clear r0 r1 r2 mb hsl0 ih
        simp only [bI_f] at i0 ⊢
        refine hV (fun p => bif p == 33 then true else bif p == 44 then true else bif p == 84 then true else bif p == 115 then true else bif p == 164 then true else bif p == 180 then true else bif p == 188 then true else bif p == 196 then true else bif p == 240 then true else p == 252) 80 _ _ _ _ _ _ ?_
        simp only [hlt, D0, hp, hpc, hpc2, hT1, hm, bI_in, bI_0, bI_1, bI_t, bI_f, bI_01, Tr_X4_meets, ae_aaload, ae_aload, ae_astore, ae_goto, ae_iadd, ae_iaload, ae_iconst, ae_ifCond, ae_if_icmp, ae_iinc, ae_iload, ae_invokestatic, ae_istore, dX4_pass_115, dX4_pass_117, dX4_pass_119, dX4_pass_122, dX4_pass_124, dX4_pass_126, dX4_pass_127, dX4_pass_129, dX4_pass_131, dX4_pass_134, dX4_pass_136, dX4_pass_138, dX4_pass_139, dX4_pass_140, dX4_pass_141, dX4_pass_142, dX4_pass_144, dX4_pass_145, dX4_pass_148, dX4_pass_151, dX4_pass_152, dX4_pass_155, dX4_pass_156, dX4_pass_158, dX4_pass_161, ca_X4_pass_57, ca_X4_pass_31, ca_X4_pass_53, ab_wp0, ab_wps, ab_stp, ab_g, ab_st, ab_k2, ab_cl, ab_pop, ab_sz, ab_2, ab_ret, ab_f4, ab_tg, ab_I, ab_II, ab_A, ab_Rf, ab_VR, ab_IR, ab_VIR, ab_1, ab_LL, ab_DD, ab_ob, ab_pr, ab_qr, ab_ln, ab_so, ab_vI, ab_vA, ab_vD, ab_vL, ab_v2, ab_c, ab_fit, ab_rv, ab_tsw, ab_lsw, ab_up_eq, Fin.isValue, ab_f0, ab_f1, ab_f2, ab_f3, List.getElem?_cons_zero, List.getElem?_cons_succ, List.set_cons_zero, List.set_cons_succ, List.length_cons, List.length_nil, List.size_toArray, List.head?_cons, List.tail_cons, Option.map_some, cond_true, cond_false, true_and, and_true, false_and, and_false, not_true_eq_false, not_false_eq_true, true_imp_iff, false_imp_iff, if_true, if_false, ite_true, ite_false, ↓reduceIte, Nat.reduceAdd, Nat.reduceEqDiff, Nat.reduceLeDiff, Nat.reduceLT, Nat.reduceBEq, Nat.reduceBNe, Int.reduceAdd, Int.reduceNeg, Int.reduceSub, Int.reduceLE, Int.reduceLT, Int.reduceToNat, Int.reduceEq, Int.reduceMul, Int.cast_ofNat_Int, Nat.zero_add, Nat.add_zero, Nat.le_refl, eq_self, ne_eq, reduceCtorEq, or_true, true_or, or_false, false_or, Bool.or_true, Bool.or_false, Bool.true_or, Bool.false_or, Nat.zero_le, Int.le_refl, Int.ofNat_zero, Int.ofNat_one, Bool.false_eq_true]
        try simp only [ab_in]
        (repeat' (first | intro _ | refine And.intro ?_ ?_)) <;> (first | exact i0 | exact rfl | contradiction | omega | (exfalso; omega))
      · rw [hm, Bool.true_or] at hu
        have i0 := ih (j + 1) true (some (.inr (.inl (some p2)))) (by omega) (by omega) (by rw [Bool.true_or]; exact hu)
        clear r0 r1 r2 mb hsl0 ih
        simp only [bI_f, bI_t] at i0 ⊢
        refine hV (fun p => bif p == 33 then true else bif p == 44 then true else bif p == 84 then true else bif p == 115 then true else bif p == 164 then true else bif p == 180 then true else bif p == 188 then true else bif p == 196 then true else bif p == 240 then true else p == 252) 80 _ _ _ _ _ _ ?_
        simp only [hlt, D0, hp, hpc, hpc2, hT1, hm, bI_in, bI_0, bI_1, bI_t, bI_f, bI_01, Tr_X4_meets, ae_aaload, ae_aload, ae_astore, ae_goto, ae_iadd, ae_iaload, ae_iconst, ae_ifCond, ae_if_icmp, ae_iinc, ae_iload, ae_invokestatic, ae_istore, dX4_pass_115, dX4_pass_117, dX4_pass_119, dX4_pass_122, dX4_pass_124, dX4_pass_126, dX4_pass_127, dX4_pass_129, dX4_pass_131, dX4_pass_134, dX4_pass_136, dX4_pass_138, dX4_pass_139, dX4_pass_140, dX4_pass_141, dX4_pass_142, dX4_pass_144, dX4_pass_145, dX4_pass_148, dX4_pass_151, dX4_pass_152, dX4_pass_155, dX4_pass_156, dX4_pass_158, dX4_pass_161, ca_X4_pass_57, ca_X4_pass_31, ca_X4_pass_53, ab_wp0, ab_wps, ab_stp, ab_g, ab_st, ab_k2, ab_cl, ab_pop, ab_sz, ab_2, ab_ret, ab_f4, ab_tg, ab_I, ab_II, ab_A, ab_Rf, ab_VR, ab_IR, ab_VIR, ab_1, ab_LL, ab_DD, ab_ob, ab_pr, ab_qr, ab_ln, ab_so, ab_vI, ab_vA, ab_vD, ab_vL, ab_v2, ab_c, ab_fit, ab_rv, ab_tsw, ab_lsw, ab_up_eq, Fin.isValue, ab_f0, ab_f1, ab_f2, ab_f3, List.getElem?_cons_zero, List.getElem?_cons_succ, List.set_cons_zero, List.set_cons_succ, List.length_cons, List.length_nil, List.size_toArray, List.head?_cons, List.tail_cons, Option.map_some, cond_true, cond_false, true_and, and_true, false_and, and_false, not_true_eq_false, not_false_eq_true, true_imp_iff, false_imp_iff, if_true, if_false, ite_true, ite_false, ↓reduceIte, Nat.reduceAdd, Nat.reduceEqDiff, Nat.reduceLeDiff, Nat.reduceLT, Nat.reduceBEq, Nat.reduceBNe, Int.reduceAdd, Int.reduceNeg, Int.reduceSub, Int.reduceLE, Int.reduceLT, Int.reduceToNat, Int.reduceEq, Int.reduceMul, Int.cast_ofNat_Int, Nat.zero_add, Nat.add_zero, Nat.le_refl, eq_self, ne_eq, reduceCtorEq, or_true, true_or, or_false, false_or, Bool.or_true, Bool.or_false, Bool.true_or, Bool.false_or, Nat.zero_le, Int.le_refl, Int.ofNat_zero, Int.ofNat_one, Bool.false_eq_true]
        try simp only [ab_in]
        (repeat' (first | intro _ | refine And.intro ?_ ?_)) <;> (first | exact i0 | exact rfl | contradiction | omega | (exfalso; omega))
    · rw [hu2, Bool.true_or] at hu
      have i0 := ih (j + 1) true (some (.inr (.inl (some p2)))) (by omega) (by omega) (by rw [Bool.true_or]; exact hu)
      clear r0 r1 r2 mb hsl0 ih
      simp only [bI_t] at i0 ⊢
      refine hV (fun p => bif p == 33 then true else bif p == 44 then true else bif p == 84 then true else bif p == 115 then true else bif p == 164 then true else bif p == 180 then true else bif p == 188 then true else bif p == 196 then true else bif p == 240 then true else p == 252) 80 _ _ _ _ _ _ ?_
      simp only [hlt, D0, hp, bI_in, bI_0, bI_1, bI_t, bI_f, bI_01, Tr_X4_meets, ae_aaload, ae_aload, ae_astore, ae_goto, ae_iadd, ae_iaload, ae_iconst, ae_ifCond, ae_if_icmp, ae_iinc, ae_iload, ae_invokestatic, ae_istore, dX4_pass_115, dX4_pass_117, dX4_pass_119, dX4_pass_122, dX4_pass_124, dX4_pass_126, dX4_pass_127, dX4_pass_129, dX4_pass_131, dX4_pass_134, dX4_pass_136, dX4_pass_138, dX4_pass_139, dX4_pass_140, dX4_pass_141, dX4_pass_142, dX4_pass_144, dX4_pass_145, dX4_pass_148, dX4_pass_151, dX4_pass_152, dX4_pass_155, dX4_pass_156, dX4_pass_158, dX4_pass_161, ca_X4_pass_57, ca_X4_pass_31, ca_X4_pass_53, ab_wp0, ab_wps, ab_stp, ab_g, ab_st, ab_k2, ab_cl, ab_pop, ab_sz, ab_2, ab_ret, ab_f4, ab_tg, ab_I, ab_II, ab_A, ab_Rf, ab_VR, ab_IR, ab_VIR, ab_1, ab_LL, ab_DD, ab_ob, ab_pr, ab_qr, ab_ln, ab_so, ab_vI, ab_vA, ab_vD, ab_vL, ab_v2, ab_c, ab_fit, ab_rv, ab_tsw, ab_lsw, ab_up_eq, Fin.isValue, ab_f0, ab_f1, ab_f2, ab_f3, List.getElem?_cons_zero, List.getElem?_cons_succ, List.set_cons_zero, List.set_cons_succ, List.length_cons, List.length_nil, List.size_toArray, List.head?_cons, List.tail_cons, Option.map_some, cond_true, cond_false, true_and, and_true, false_and, and_false, not_true_eq_false, not_false_eq_true, true_imp_iff, false_imp_iff, if_true, if_false, ite_true, ite_false, ↓reduceIte, Nat.reduceAdd, Nat.reduceEqDiff, Nat.reduceLeDiff, Nat.reduceLT, Nat.reduceBEq, Nat.reduceBNe, Int.reduceAdd, Int.reduceNeg, Int.reduceSub, Int.reduceLE, Int.reduceLT, Int.reduceToNat, Int.reduceEq, Int.reduceMul, Int.cast_ofNat_Int, Nat.zero_add, Nat.add_zero, Nat.le_refl, eq_self, ne_eq, reduceCtorEq, or_true, true_or, or_false, false_or, Bool.or_true, Bool.or_false, Bool.true_or, Bool.false_or, Nat.zero_le, Int.le_refl, Int.ofNat_zero, Int.ofNat_one, Bool.false_eq_true]
      try simp only [ab_in]
      (repeat' (first | intro _ | refine And.intro ?_ ?_)) <;> (first | exact i0 | exact rfl | contradiction | omega | (exfalso; omega))
set_option maxRecDepth 100000 in
set_option maxHeartbeats 4000000 in
theorem pass_x {base : Nat} {K : Option AV → AH → Prop} {V : AVt} {h h2 : AH} {a : Nat} {N : SN} {M : SM} {q : Nat} {k z : Nat} (hV : ab_Hv tbX4 lw_ts base cX4_pass ca_X4_pass 0 61 12200 K V) (hkz : k ≤ 61 ∧ z ≤ 12200) {p kk : Nat} {gg : Int → Bool} {C : Bool} (hp : N.2.1 (kk : Int) = some p) (hpq : ¬ p = q)
    (hE : ∀ (x : Int) w7 w8 w9 w10 w11 h3, h3 q = h2 q → simAt h3 a (N, M.s_sl (crkC M.sl gg kk C)) → ab_fo h h3 (simIn N a) → V 180 [some (.inr (.inl (some a))), some (.inr (.inl (some q))), some (.inr (.inl (some N.1))), some (.inl (M.n : Int)), some (.inl ((kk : Int))), some (.inr (.inl (some p))), some (.inl (x)), w7, w8, w9, w10, w11] [] h3 k z) :
    ∀ (m : Nat) (x : Int) (c : Bool) (w7 w8 w9 w10 w11 : Option AV) (h3 : AH), x + m = M.sl kk 1 + M.sl kk 2 → 0 ≤ x → h3 q = h2 q → simAt h3 a (N, M.s_sl (crkC M.sl gg kk c)) → ab_fo h h3 (simIn N a) → (c || anyR (bareS M (M.sl kk)) m x) = C → V 84 [some (.inr (.inl (some a))), some (.inr (.inl (some q))), some (.inr (.inl (some N.1))), some (.inl (M.n : Int)), some (.inl ((kk : Int))), some (.inr (.inl (some p))), some (.inl (x)), w7, w8, w9, w10, w11] [] h3 k z := by
  intro m
  induction m with
  | zero =>
    intro x c w7 w8 w9 w10 w11 h3 hx h0 hq g1 g2 hc
    obtain ⟨mb, D, nd, D0, D1, D2, r0, r1, r2⟩ := id g1
    have hsl0 := mb.1
    have hn0 := mb.2.2.2.1
    dsimp only at D D0 D1 D2 r0 r1 r2 hsl0 hn0
    have hpc : h3 p = some (.inr (.inl (0, 6, crkC M.sl gg kk c kk))) := (rows_some r0 hp).2
    rw [crkC_at] at hpc
    obtain ⟨e0, e1, e2, e3, e5⟩ := crkC_i (M.sl kk) c
    have hle : M.sl kk 1 + M.sl kk 2 ≤ x := by omega
    have b1 : slB (crkC M.sl gg kk c kk) := hsl0 kk
    rw [crkC_at] at b1
    obtain ⟨-, b1, -⟩ := b1
    rw [e1, e2] at b1
    simp only [anyR, Bool.or_false] at hc
    subst hc
    have i0 := hE x w7 w8 w9 w10 w11 h3 hq g1 g2
    clear r0 r1 r2 mb hsl0 hE
    refine hV (fun p => bif p == 33 then true else bif p == 44 then true else bif p == 84 then true else bif p == 115 then true else bif p == 164 then true else bif p == 180 then true else bif p == 188 then true else bif p == 196 then true else bif p == 240 then true else p == 252) 80 _ _ _ _ _ _ ?_
    simp only [hpc, e1, e2, hle, bI_in, bI_0, bI_1, bI_t, bI_f, bI_01, ae_aload, ae_iadd, ae_iaload, ae_iconst, ae_if_icmp, ae_iload, dX4_pass_84, dX4_pass_86, dX4_pass_88, dX4_pass_89, dX4_pass_90, dX4_pass_92, dX4_pass_93, dX4_pass_94, dX4_pass_95, ca_X4_pass_57, ca_X4_pass_31, ca_X4_pass_53, ab_wp0, ab_wps, ab_stp, ab_g, ab_st, ab_k2, ab_cl, ab_pop, ab_sz, ab_2, ab_ret, ab_f4, ab_tg, ab_I, ab_II, ab_A, ab_Rf, ab_VR, ab_IR, ab_VIR, ab_1, ab_LL, ab_DD, ab_ob, ab_pr, ab_qr, ab_ln, ab_so, ab_vI, ab_vA, ab_vD, ab_vL, ab_v2, ab_c, ab_fit, ab_rv, ab_tsw, ab_lsw, ab_up_eq, Fin.isValue, ab_f0, ab_f1, ab_f2, ab_f3, List.getElem?_cons_zero, List.getElem?_cons_succ, List.set_cons_zero, List.set_cons_succ, List.length_cons, List.length_nil, List.size_toArray, List.head?_cons, List.tail_cons, Option.map_some, cond_true, cond_false, true_and, and_true, false_and, and_false, not_true_eq_false, not_false_eq_true, true_imp_iff, false_imp_iff, if_true, if_false, ite_true, ite_false, ↓reduceIte, Nat.reduceAdd, Nat.reduceEqDiff, Nat.reduceLeDiff, Nat.reduceLT, Nat.reduceBEq, Nat.reduceBNe, Int.reduceAdd, Int.reduceNeg, Int.reduceSub, Int.reduceLE, Int.reduceLT, Int.reduceToNat, Int.reduceEq, Int.reduceMul, Int.cast_ofNat_Int, Nat.zero_add, Nat.add_zero, Nat.le_refl, eq_self, ne_eq, reduceCtorEq, or_true, true_or, or_false, false_or, Bool.or_true, Bool.or_false, Bool.true_or, Bool.false_or, Nat.zero_le, Int.le_refl, Int.ofNat_zero, Int.ofNat_one, Bool.false_eq_true]
    try simp only [ab_in]
    (repeat' (first | intro _ | refine And.intro ?_ ?_)) <;> (first | exact i0 | contradiction | omega | (exfalso; omega))
  | succ m ih =>
    intro x c w7 w8 w9 w10 w11 h3 hx h0 hq g1 g2 hc
    obtain ⟨mb, D, nd, D0, D1, D2, r0, r1, r2⟩ := id g1
    have hsl0 := mb.1
    have hn0 := mb.2.2.2.1
    dsimp only at D D0 D1 D2 r0 r1 r2 hsl0 hn0
    have hpc : h3 p = some (.inr (.inl (0, 6, crkC M.sl gg kk c kk))) := (rows_some r0 hp).2
    rw [crkC_at] at hpc
    obtain ⟨e0, e1, e2, e3, e5⟩ := crkC_i (M.sl kk) c
    have hlt : ¬ M.sl kk 1 + M.sl kk 2 ≤ x := by omega
    have b1 : slB (crkC M.sl gg kk c kk) := hsl0 kk
    rw [crkC_at] at b1
    have b9 := id b1
    obtain ⟨b0, b1, -⟩ := b1
    rw [e1, e2] at b1
    rw [e0] at b0
    simp only [anyR] at hc
    have aft : ∀ j w, V 164 [some (.inr (.inl (some a))), some (.inr (.inl (some q))), some (.inr (.inl (some N.1))), some (.inl (M.n : Int)), some (.inl ((kk : Int))), some (.inr (.inl (some p))), some (.inl (x)), some (.inl (bI (anyR (fun j => meetsF (M.sl j) (M.sl kk 0 + 1) x 1) M.n 0))), some (.inr (.inl (some N.1))), some (.inl (M.n : Int)), some (.inl (j)), w] [] h3 k z := by
      intro j w
      cases hb : bareS M (M.sl kk) x
      · rw [hb, Bool.false_or] at hc
        have hu : anyR (fun j => meetsF (M.sl j) (M.sl kk 0 + 1) x 1) M.n 0 = true := by
          simp only [bareS] at hb
          cases h9 : anyR (fun j => meetsF (M.sl j) (M.sl kk 0 + 1) x 1) M.n 0
          · rw [h9] at hb; cases hb
          · rfl
        have i0 := ih (x + 1) c (some (.inl 1)) (some (.inr (.inl (some N.1)))) (some (.inl (M.n : Int))) (some (.inl j)) w h3 (by omega) (by omega) hq g1 g2 hc
        rw [hu, bI_t]
        clear r0 r1 r2 mb hsl0 hE ih
        refine hV (fun p => bif p == 33 then true else bif p == 44 then true else bif p == 84 then true else bif p == 115 then true else bif p == 164 then true else bif p == 180 then true else bif p == 188 then true else bif p == 196 then true else bif p == 240 then true else p == 252) 80 _ _ _ _ _ _ ?_
        simp only [bI_in, bI_0, bI_1, bI_t, bI_f, bI_01, ae_aload, ae_goto, ae_iastore, ae_iconst, ae_ifCond, ae_iinc, ae_iload, dX4_pass_164, dX4_pass_166, dX4_pass_169, dX4_pass_171, dX4_pass_172, dX4_pass_173, dX4_pass_174, dX4_pass_177, ca_X4_pass_57, ca_X4_pass_31, ca_X4_pass_53, ab_wp0, ab_wps, ab_stp, ab_g, ab_st, ab_k2, ab_cl, ab_pop, ab_sz, ab_2, ab_ret, ab_f4, ab_tg, ab_I, ab_II, ab_A, ab_Rf, ab_VR, ab_IR, ab_VIR, ab_1, ab_LL, ab_DD, ab_ob, ab_pr, ab_qr, ab_ln, ab_so, ab_vI, ab_vA, ab_vD, ab_vL, ab_v2, ab_c, ab_fit, ab_rv, ab_tsw, ab_lsw, ab_up_eq, Fin.isValue, ab_f0, ab_f1, ab_f2, ab_f3, List.getElem?_cons_zero, List.getElem?_cons_succ, List.set_cons_zero, List.set_cons_succ, List.length_cons, List.length_nil, List.size_toArray, List.head?_cons, List.tail_cons, Option.map_some, cond_true, cond_false, true_and, and_true, false_and, and_false, not_true_eq_false, not_false_eq_true, true_imp_iff, false_imp_iff, if_true, if_false, ite_true, ite_false, ↓reduceIte, Nat.reduceAdd, Nat.reduceEqDiff, Nat.reduceLeDiff, Nat.reduceLT, Nat.reduceBEq, Nat.reduceBNe, Int.reduceAdd, Int.reduceNeg, Int.reduceSub, Int.reduceLE, Int.reduceLT, Int.reduceToNat, Int.reduceEq, Int.reduceMul, Int.cast_ofNat_Int, Nat.zero_add, Nat.add_zero, Nat.le_refl, eq_self, ne_eq, reduceCtorEq, or_true, true_or, or_false, false_or, Bool.or_true, Bool.or_false, Bool.true_or, Bool.false_or, Nat.zero_le, Int.le_refl, Int.ofNat_zero, Int.ofNat_one, Bool.false_eq_true]
        try simp only [ab_in]
        (repeat' (first | intro _ | refine And.intro ?_ ?_)) <;> (first | exact i0 | contradiction | omega | (exfalso; omega))
      · rw [hb, Bool.true_or, Bool.or_true] at hc
        have hu : anyR (fun j => meetsF (M.sl j) (M.sl kk 0 + 1) x 1) M.n 0 = false := by
          simp only [bareS] at hb
          cases h9 : anyR (fun j => meetsF (M.sl j) (M.sl kk 0 + 1) x 1) M.n 0
          · rfl
          · rw [h9] at hb; cases hb
        have g3 := sim_sl g1 hp (v := ab_uf (bif c then ab_uf (M.sl kk) 4 1 else M.sl kk) 4 1) (by obtain ⟨a1, a2, a3, a4, a5⟩ := b9; exact ⟨a1, a2, a3, Or.inr rfl, a5⟩)
        have g4 : simAt (ab_up h3 p (.inr (.inl (0, 6, ab_uf (bif c then ab_uf (M.sl kk) 4 1 else M.sl kk) 4 1)))) a (N, M.s_sl (crkC M.sl gg kk true)) := by
          have e9 := crkC_w M.sl gg (kk : Int) c
          rw [← e9]
          exact g3
        have i0 := ih (x + 1) true (some (.inl 0)) (some (.inr (.inl (some N.1)))) (some (.inl (M.n : Int))) (some (.inl j)) w _ (by omega) (by omega) (by rw [ab_up_ap, if_neg (fun e => hpq e.symm)]; exact hq) g4 (g2.up2 (Or.inl (Or.inr (Or.inr (Or.inr (Or.inr (Or.inl ⟨_, hp⟩))))))) (by rw [Bool.true_or]; exact hc)
        rw [hu, bI_f]
        clear r0 r1 r2 mb hsl0 hE ih g3 g4
        refine hV (fun p => bif p == 33 then true else bif p == 44 then true else bif p == 84 then true else bif p == 115 then true else bif p == 164 then true else bif p == 180 then true else bif p == 188 then true else bif p == 196 then true else bif p == 240 then true else p == 252) 80 _ _ _ _ _ _ ?_
        simp only [hpc, bI_in, bI_0, bI_1, bI_t, bI_f, bI_01, ae_aload, ae_goto, ae_iastore, ae_iconst, ae_ifCond, ae_iinc, ae_iload, dX4_pass_164, dX4_pass_166, dX4_pass_169, dX4_pass_171, dX4_pass_172, dX4_pass_173, dX4_pass_174, dX4_pass_177, ca_X4_pass_57, ca_X4_pass_31, ca_X4_pass_53, ab_wp0, ab_wps, ab_stp, ab_g, ab_st, ab_k2, ab_cl, ab_pop, ab_sz, ab_2, ab_ret, ab_f4, ab_tg, ab_I, ab_II, ab_A, ab_Rf, ab_VR, ab_IR, ab_VIR, ab_1, ab_LL, ab_DD, ab_ob, ab_pr, ab_qr, ab_ln, ab_so, ab_vI, ab_vA, ab_vD, ab_vL, ab_v2, ab_c, ab_fit, ab_rv, ab_tsw, ab_lsw, ab_up_eq, Fin.isValue, ab_f0, ab_f1, ab_f2, ab_f3, List.getElem?_cons_zero, List.getElem?_cons_succ, List.set_cons_zero, List.set_cons_succ, List.length_cons, List.length_nil, List.size_toArray, List.head?_cons, List.tail_cons, Option.map_some, cond_true, cond_false, true_and, and_true, false_and, and_false, not_true_eq_false, not_false_eq_true, true_imp_iff, false_imp_iff, if_true, if_false, ite_true, ite_false, ↓reduceIte, Nat.reduceAdd, Nat.reduceEqDiff, Nat.reduceLeDiff, Nat.reduceLT, Nat.reduceBEq, Nat.reduceBNe, Int.reduceAdd, Int.reduceNeg, Int.reduceSub, Int.reduceLE, Int.reduceLT, Int.reduceToNat, Int.reduceEq, Int.reduceMul, Int.cast_ofNat_Int, Nat.zero_add, Nat.add_zero, Nat.le_refl, eq_self, ne_eq, reduceCtorEq, or_true, true_or, or_false, false_or, Bool.or_true, Bool.or_false, Bool.true_or, Bool.false_or, Nat.zero_le, Int.le_refl, Int.ofNat_zero, Int.ofNat_one, Bool.false_eq_true]
        try simp only [ab_in]
        (repeat' (first | intro _ | refine And.intro ?_ ?_)) <;> (first | exact i0 | exact rfl | contradiction | omega | (exfalso; omega))
    have hme : (fun j => meetsF (M.sl j) (M.sl kk 0 + 1) x 1) = fun j => meetsF (crkC M.sl gg kk c j) ((bif c then ab_uf (M.sl kk) 4 1 else M.sl kk) 0 + 1) x 1 := by
      funext j
      rw [crkC_m, e0]
    rw [hme] at aft
    have i0 := pass_j (h := h) (p := p) (q := q) (f := bif c then ab_uf (M.sl kk) 4 1 else M.sl kk) (kk := kk) (x := x) (M := M.s_sl (crkC M.sl gg kk c)) hV hkz g1 hpc (by rw [e0]; exact b0) (by omega) aft M.n 0 false w11 (by show (0 : Int) + (M.n : Int) = (M.n : Int); omega) (by omega) (by rw [Bool.false_or])
    clear r0 r1 r2 mb hsl0 hE ih aft
    refine hV (fun p => bif p == 33 then true else bif p == 44 then true else bif p == 84 then true else bif p == 115 then true else bif p == 164 then true else bif p == 180 then true else bif p == 188 then true else bif p == 196 then true else bif p == 240 then true else p == 252) 80 _ _ _ _ _ _ ?_
    simp only [hpc, D, D0, e1, e2, hlt, bI_in, bI_0, bI_1, bI_t, bI_f, bI_01, ae_aload, ae_aload_n, ae_arraylength, ae_astore, ae_getfield, ae_iadd, ae_iaload, ae_iconst, ae_if_icmp, ae_iload, ae_istore, dX4_pass_84, dX4_pass_86, dX4_pass_88, dX4_pass_89, dX4_pass_90, dX4_pass_92, dX4_pass_93, dX4_pass_94, dX4_pass_95, dX4_pass_98, dX4_pass_99, dX4_pass_101, dX4_pass_102, dX4_pass_105, dX4_pass_107, dX4_pass_109, dX4_pass_110, dX4_pass_112, dX4_pass_113, tbX4_g9, ca_X4_pass_57, ca_X4_pass_31, ca_X4_pass_53, ab_wp0, ab_wps, ab_stp, ab_g, ab_st, ab_k2, ab_cl, ab_pop, ab_sz, ab_2, ab_ret, ab_f4, ab_tg, ab_I, ab_II, ab_A, ab_Rf, ab_VR, ab_IR, ab_VIR, ab_1, ab_LL, ab_DD, ab_ob, ab_pr, ab_qr, ab_ln, ab_so, ab_vI, ab_vA, ab_vD, ab_vL, ab_v2, ab_c, ab_fit, ab_rv, ab_tsw, ab_lsw, ab_up_eq, Fin.isValue, ab_f0, ab_f1, ab_f2, ab_f3, List.getElem?_cons_zero, List.getElem?_cons_succ, List.set_cons_zero, List.set_cons_succ, List.length_cons, List.length_nil, List.size_toArray, List.head?_cons, List.tail_cons, Option.map_some, cond_true, cond_false, true_and, and_true, false_and, and_false, not_true_eq_false, not_false_eq_true, true_imp_iff, false_imp_iff, if_true, if_false, ite_true, ite_false, ↓reduceIte, Nat.reduceAdd, Nat.reduceEqDiff, Nat.reduceLeDiff, Nat.reduceLT, Nat.reduceBEq, Nat.reduceBNe, Int.reduceAdd, Int.reduceNeg, Int.reduceSub, Int.reduceLE, Int.reduceLT, Int.reduceToNat, Int.reduceEq, Int.reduceMul, Int.cast_ofNat_Int, Nat.zero_add, Nat.add_zero, Nat.le_refl, eq_self, ne_eq, reduceCtorEq, or_true, true_or, or_false, false_or, Bool.or_true, Bool.or_false, Bool.true_or, Bool.false_or, Nat.zero_le, Int.le_refl, Int.ofNat_zero, Int.ofNat_one, Bool.false_eq_true]
    try simp only [ab_in]
    (repeat' (first | intro _ | refine And.intro ?_ ?_)) <;> (first | exact i0 | exact rfl | contradiction | omega | (exfalso; omega))
set_option maxRecDepth 100000 in
set_option maxHeartbeats 4000000 in
theorem pass_k {base : Nat} {K : Option AV → AH → Prop} {V : AVt} {h h2 : AH} {a : Nat} {N : SN} {M : SM} {q : Nat} {k z : Nat} (hV : ab_Hv tbX4 lw_ts base cX4_pass ca_X4_pass 0 61 12200 K V) (hkz : k ≤ 61 ∧ z ≤ 12200) {d : Int → Int} (hq2 : h2 q = some (.inr (.inl (0, 4, d)))) (hdB : dyB d)
    (hE : ∀ w5 w6 w7 w8 w9 w10 w11 h3, h3 q = h2 q → simAt h3 a (N, M.s_sl (crkF M.sl (crkG M (d 2)) M.n)) → ab_fo h h3 (simIn N a) → V 44 [some (.inr (.inl (some a))), some (.inr (.inl (some q))), some (.inr (.inl (some N.1))), some (.inl (M.n : Int)), some (.inl ((M.n : Int))), w5, w6, w7, w8, w9, w10, w11] [] h3 k z) :
    ∀ (m kk : Nat) (w5 w6 w7 w8 w9 w10 w11 : Option AV) (h3 : AH), kk + m = M.n → h3 q = h2 q → simAt h3 a (N, M.s_sl (crkF M.sl (crkG M (d 2)) kk)) → ab_fo h h3 (simIn N a) → V 44 [some (.inr (.inl (some a))), some (.inr (.inl (some q))), some (.inr (.inl (some N.1))), some (.inl (M.n : Int)), some (.inl ((kk : Int))), w5, w6, w7, w8, w9, w10, w11] [] h3 k z := by
  intro m
  induction m with
  | zero =>
    intro kk w5 w6 w7 w8 w9 w10 w11 h3 hk hq g1 g2
    have e : kk = M.n := by omega
    subst e
    exact hE w5 w6 w7 w8 w9 w10 w11 h3 hq g1 g2
  | succ m ih =>
    intro kk w5 w6 w7 w8 w9 w10 w11 h3 hk hq g1 g2
    obtain ⟨mb, D, nd, D0, D1, D2, r0, r1, r2⟩ := id g1
    have hsl0 := mb.1
    have hn0 := mb.2.2.2.1
    dsimp only at D D0 D1 D2 r0 r1 r2 hsl0 hn0
    have hlt : ¬ (M.n : Int) ≤ (kk : Int) := by omega
    have hnn : M.n ≤ 200 := g1.1.2.2.2.1
    have D0 : h3 N.1 = some (.inr (.inr (3, M.n, N.2.1))) := D0
    have hkr : 0 ≤ (kk : Int) ∧ (kk : Int) < (M.n : Int) ∧ (M.n : Int) ≤ 200 := by omega
    obtain ⟨p, hp, hpc⟩ := r0.1 kk (by omega) (by show (kk : Int) < (M.n : Int); omega)
    have eat : crkF M.sl (crkG M (d 2)) kk kk = M.sl kk := by simp only [crkF]; rw [if_neg (by omega)]
    have hsl : slB (crkF M.sl (crkG M (d 2)) kk kk) := hsl0 kk
    have hpc : h3 p = some (.inr (.inl (0, 6, crkF M.sl (crkG M (d 2)) kk kk))) := hpc
    rw [eat] at hpc hsl
    obtain ⟨b0, b1, b3, b4, b5⟩ := hsl
    obtain ⟨d0, d1, d2, d3⟩ := id hdB
    have hqc : h3 q = some (.inr (.inl (0, 4, d))) := hq.trans hq2
    have hpq : ¬ p = q := by rintro rfl; rw [hqc] at hpc; cases hpc
    have ek : ((kk + 1 : Nat) : Int) = (kk : Int) + 1 := by omega
    have nxt : ∀ w5 w6 w7 w8 w9 w10 w11 h4, h4 q = h2 q → simAt h4 a (N, M.s_sl (crkF M.sl (crkG M (d 2)) ((kk : Int) + 1))) → ab_fo h h4 (simIn N a) → V 180 [some (.inr (.inl (some a))), some (.inr (.inl (some q))), some (.inr (.inl (some N.1))), some (.inl (M.n : Int)), some (.inl ((kk : Int))), w5, w6, w7, w8, w9, w10, w11] [] h4 k z := by
      intro w5 w6 w7 w8 w9 w10 w11 h4 u1 u2 u3
      have i0 := ih (kk + 1) w5 w6 w7 w8 w9 w10 w11 h4 (by omega) u1 (by rw [ek]; exact u2) u3
      rw [ek] at i0
      clear ih r0 r1 r2 mb hsl0
      refine hV (fun p => bif p == 33 then true else bif p == 44 then true else bif p == 84 then true else bif p == 115 then true else bif p == 164 then true else bif p == 180 then true else bif p == 188 then true else bif p == 196 then true else bif p == 240 then true else p == 252) 80 _ _ _ _ _ _ ?_
      simp only [bI_in, bI_0, bI_1, bI_t, bI_f, bI_01, ae_goto, ae_iinc, dX4_pass_180, dX4_pass_183, ca_X4_pass_57, ca_X4_pass_31, ca_X4_pass_53, ab_wp0, ab_wps, ab_stp, ab_g, ab_st, ab_k2, ab_cl, ab_pop, ab_sz, ab_2, ab_ret, ab_f4, ab_tg, ab_I, ab_II, ab_A, ab_Rf, ab_VR, ab_IR, ab_VIR, ab_1, ab_LL, ab_DD, ab_ob, ab_pr, ab_qr, ab_ln, ab_so, ab_vI, ab_vA, ab_vD, ab_vL, ab_v2, ab_c, ab_fit, ab_rv, ab_tsw, ab_lsw, ab_up_eq, Fin.isValue, ab_f0, ab_f1, ab_f2, ab_f3, List.getElem?_cons_zero, List.getElem?_cons_succ, List.set_cons_zero, List.set_cons_succ, List.length_cons, List.length_nil, List.size_toArray, List.head?_cons, List.tail_cons, Option.map_some, cond_true, cond_false, true_and, and_true, false_and, and_false, not_true_eq_false, not_false_eq_true, true_imp_iff, false_imp_iff, if_true, if_false, ite_true, ite_false, ↓reduceIte, Nat.reduceAdd, Nat.reduceEqDiff, Nat.reduceLeDiff, Nat.reduceLT, Nat.reduceBEq, Nat.reduceBNe, Int.reduceAdd, Int.reduceNeg, Int.reduceSub, Int.reduceLE, Int.reduceLT, Int.reduceToNat, Int.reduceEq, Int.reduceMul, Int.cast_ofNat_Int, Nat.zero_add, Nat.add_zero, Nat.le_refl, eq_self, ne_eq, reduceCtorEq, or_true, true_or, or_false, false_or, Bool.or_true, Bool.or_false, Bool.true_or, Bool.false_or, Nat.zero_le, Int.le_refl, Int.ofNat_zero, Int.ofNat_one, Bool.false_eq_true]
      try simp only [ab_in]
      (repeat' (first | intro _ | refine And.intro ?_ ?_)) <;> (first | exact i0 | contradiction | omega | (exfalso; omega))
    by_cases hg : ¬ M.sl kk 5 = 0 ∧ M.sl kk 3 + 4 ≤ d 2
    · obtain ⟨h5, h34⟩ := hg
      have hlt2 : ¬ d 2 < M.sl kk 3 + 4 := by omega
      have eg : crkG M (d 2) kk = anyR (bareS M (M.sl kk)) (M.sl kk 2).toNat (M.sl kk 1) := by unfold crkG; rw [decide_eq_true ⟨h5, h34⟩, Bool.true_and]
      have px := pass_x (M := M) (q := q) (gg := crkG M (d 2)) (C := crkG M (d 2) kk) hV hkz hp hpq (h := h) (h2 := h2) (fun x w7 w8 w9 w10 w11 h4 u1 u2 u3 => nxt _ _ w7 w8 w9 w10 w11 h4 u1 (by rw [← crkC_k]; exact u2) u3)
      have i0 := px (M.sl kk 2).toNat (M.sl kk 1) false w7 w8 w9 w10 w11 h3 (by omega) (by omega) hq (by rw [crkC_f]; exact g1) g2 (by rw [Bool.false_or, eg])
      clear ih r0 r1 r2 mb hsl0 nxt px
      refine hV (fun p => bif p == 33 then true else bif p == 44 then true else bif p == 84 then true else bif p == 115 then true else bif p == 164 then true else bif p == 180 then true else bif p == 188 then true else bif p == 196 then true else bif p == 240 then true else p == 252) 80 _ _ _ _ _ _ ?_
      simp only [hqc, hpc, hp, D, D0, h5, hlt, hlt2, bI_in, bI_0, bI_1, bI_t, bI_f, bI_01, ae_aaload, ae_aload, ae_aload_n, ae_astore, ae_goto, ae_iadd, ae_iaload, ae_iconst, ae_ifCond, ae_if_icmp, ae_iload, ae_iload_n, ae_istore, dX4_pass_44, dX4_pass_46, dX4_pass_47, dX4_pass_50, dX4_pass_51, dX4_pass_53, dX4_pass_54, dX4_pass_56, dX4_pass_58, dX4_pass_59, dX4_pass_60, dX4_pass_63, dX4_pass_64, dX4_pass_65, dX4_pass_66, dX4_pass_68, dX4_pass_69, dX4_pass_70, dX4_pass_71, dX4_pass_72, dX4_pass_75, dX4_pass_78, dX4_pass_80, dX4_pass_81, dX4_pass_82, ca_X4_pass_57, ca_X4_pass_31, ca_X4_pass_53, ab_wp0, ab_wps, ab_stp, ab_g, ab_st, ab_k2, ab_cl, ab_pop, ab_sz, ab_2, ab_ret, ab_f4, ab_tg, ab_I, ab_II, ab_A, ab_Rf, ab_VR, ab_IR, ab_VIR, ab_1, ab_LL, ab_DD, ab_ob, ab_pr, ab_qr, ab_ln, ab_so, ab_vI, ab_vA, ab_vD, ab_vL, ab_v2, ab_c, ab_fit, ab_rv, ab_tsw, ab_lsw, ab_up_eq, Fin.isValue, ab_f0, ab_f1, ab_f2, ab_f3, List.getElem?_cons_zero, List.getElem?_cons_succ, List.set_cons_zero, List.set_cons_succ, List.length_cons, List.length_nil, List.size_toArray, List.head?_cons, List.tail_cons, Option.map_some, cond_true, cond_false, true_and, and_true, false_and, and_false, not_true_eq_false, not_false_eq_true, true_imp_iff, false_imp_iff, if_true, if_false, ite_true, ite_false, ↓reduceIte, Nat.reduceAdd, Nat.reduceEqDiff, Nat.reduceLeDiff, Nat.reduceLT, Nat.reduceBEq, Nat.reduceBNe, Int.reduceAdd, Int.reduceNeg, Int.reduceSub, Int.reduceLE, Int.reduceLT, Int.reduceToNat, Int.reduceEq, Int.reduceMul, Int.cast_ofNat_Int, Nat.zero_add, Nat.add_zero, Nat.le_refl, eq_self, ne_eq, reduceCtorEq, or_true, true_or, or_false, false_or, Bool.or_true, Bool.or_false, Bool.true_or, Bool.false_or, Nat.zero_le, Int.le_refl, Int.ofNat_zero, Int.ofNat_one, Bool.false_eq_true]
      try simp only [ab_in]
      (repeat' (first | intro _ | refine And.intro ?_ ?_)) <;> (first | exact i0 | contradiction | omega | (exfalso; omega))
    · have eg : crkG M (d 2) kk = false := by unfold crkG; rw [decide_eq_false hg, Bool.false_and]
      have en : crkF M.sl (crkG M (d 2)) ((kk : Int) + 1) = crkF M.sl (crkG M (d 2)) kk := by
        rw [← crkC_k, eg, crkC_f]
      have i0 := nxt (some (.inr (.inl (some p)))) w6 w7 w8 w9 w10 w11 h3 hq (by rw [en]; exact g1) g2
      clear ih r0 r1 r2 mb hsl0 nxt
      by_cases h5 : M.sl kk 5 = 0
      · refine hV (fun p => bif p == 33 then true else bif p == 44 then true else bif p == 84 then true else bif p == 115 then true else bif p == 164 then true else bif p == 180 then true else bif p == 188 then true else bif p == 196 then true else bif p == 240 then true else p == 252) 80 _ _ _ _ _ _ ?_
        simp only [hqc, hpc, hp, D, D0, h5, hlt, bI_in, bI_0, bI_1, bI_t, bI_f, bI_01, ae_aaload, ae_aload, ae_aload_n, ae_astore, ae_goto, ae_iadd, ae_iaload, ae_iconst, ae_ifCond, ae_if_icmp, ae_iload, ae_iload_n, ae_istore, dX4_pass_44, dX4_pass_46, dX4_pass_47, dX4_pass_50, dX4_pass_51, dX4_pass_53, dX4_pass_54, dX4_pass_56, dX4_pass_58, dX4_pass_59, dX4_pass_60, dX4_pass_63, dX4_pass_64, dX4_pass_65, dX4_pass_66, dX4_pass_68, dX4_pass_69, dX4_pass_70, dX4_pass_71, dX4_pass_72, dX4_pass_75, dX4_pass_78, dX4_pass_80, dX4_pass_81, dX4_pass_82, ca_X4_pass_57, ca_X4_pass_31, ca_X4_pass_53, ab_wp0, ab_wps, ab_stp, ab_g, ab_st, ab_k2, ab_cl, ab_pop, ab_sz, ab_2, ab_ret, ab_f4, ab_tg, ab_I, ab_II, ab_A, ab_Rf, ab_VR, ab_IR, ab_VIR, ab_1, ab_LL, ab_DD, ab_ob, ab_pr, ab_qr, ab_ln, ab_so, ab_vI, ab_vA, ab_vD, ab_vL, ab_v2, ab_c, ab_fit, ab_rv, ab_tsw, ab_lsw, ab_up_eq, Fin.isValue, ab_f0, ab_f1, ab_f2, ab_f3, List.getElem?_cons_zero, List.getElem?_cons_succ, List.set_cons_zero, List.set_cons_succ, List.length_cons, List.length_nil, List.size_toArray, List.head?_cons, List.tail_cons, Option.map_some, cond_true, cond_false, true_and, and_true, false_and, and_false, not_true_eq_false, not_false_eq_true, true_imp_iff, false_imp_iff, if_true, if_false, ite_true, ite_false, ↓reduceIte, Nat.reduceAdd, Nat.reduceEqDiff, Nat.reduceLeDiff, Nat.reduceLT, Nat.reduceBEq, Nat.reduceBNe, Int.reduceAdd, Int.reduceNeg, Int.reduceSub, Int.reduceLE, Int.reduceLT, Int.reduceToNat, Int.reduceEq, Int.reduceMul, Int.cast_ofNat_Int, Nat.zero_add, Nat.add_zero, Nat.le_refl, eq_self, ne_eq, reduceCtorEq, or_true, true_or, or_false, false_or, Bool.or_true, Bool.or_false, Bool.true_or, Bool.false_or, Nat.zero_le, Int.le_refl, Int.ofNat_zero, Int.ofNat_one, Bool.false_eq_true]
        try simp only [ab_in]
        (repeat' (first | intro _ | refine And.intro ?_ ?_)) <;> (first | exact i0 | contradiction | omega | (exfalso; omega))
      · have hlt2 : d 2 < M.sl kk 3 + 4 := by omega
        refine hV (fun p => bif p == 33 then true else bif p == 44 then true else bif p == 84 then true else bif p == 115 then true else bif p == 164 then true else bif p == 180 then true else bif p == 188 then true else bif p == 196 then true else bif p == 240 then true else p == 252) 80 _ _ _ _ _ _ ?_
        simp only [hqc, hpc, hp, D, D0, h5, hlt, hlt2, bI_in, bI_0, bI_1, bI_t, bI_f, bI_01, ae_aaload, ae_aload, ae_aload_n, ae_astore, ae_goto, ae_iadd, ae_iaload, ae_iconst, ae_ifCond, ae_if_icmp, ae_iload, ae_iload_n, ae_istore, dX4_pass_44, dX4_pass_46, dX4_pass_47, dX4_pass_50, dX4_pass_51, dX4_pass_53, dX4_pass_54, dX4_pass_56, dX4_pass_58, dX4_pass_59, dX4_pass_60, dX4_pass_63, dX4_pass_64, dX4_pass_65, dX4_pass_66, dX4_pass_68, dX4_pass_69, dX4_pass_70, dX4_pass_71, dX4_pass_72, dX4_pass_75, dX4_pass_78, dX4_pass_80, dX4_pass_81, dX4_pass_82, ca_X4_pass_57, ca_X4_pass_31, ca_X4_pass_53, ab_wp0, ab_wps, ab_stp, ab_g, ab_st, ab_k2, ab_cl, ab_pop, ab_sz, ab_2, ab_ret, ab_f4, ab_tg, ab_I, ab_II, ab_A, ab_Rf, ab_VR, ab_IR, ab_VIR, ab_1, ab_LL, ab_DD, ab_ob, ab_pr, ab_qr, ab_ln, ab_so, ab_vI, ab_vA, ab_vD, ab_vL, ab_v2, ab_c, ab_fit, ab_rv, ab_tsw, ab_lsw, ab_up_eq, Fin.isValue, ab_f0, ab_f1, ab_f2, ab_f3, List.getElem?_cons_zero, List.getElem?_cons_succ, List.set_cons_zero, List.set_cons_succ, List.length_cons, List.length_nil, List.size_toArray, List.head?_cons, List.tail_cons, Option.map_some, cond_true, cond_false, true_and, and_true, false_and, and_false, not_true_eq_false, not_false_eq_true, true_imp_iff, false_imp_iff, if_true, if_false, ite_true, ite_false, ↓reduceIte, Nat.reduceAdd, Nat.reduceEqDiff, Nat.reduceLeDiff, Nat.reduceLT, Nat.reduceBEq, Nat.reduceBNe, Int.reduceAdd, Int.reduceNeg, Int.reduceSub, Int.reduceLE, Int.reduceLT, Int.reduceToNat, Int.reduceEq, Int.reduceMul, Int.cast_ofNat_Int, Nat.zero_add, Nat.add_zero, Nat.le_refl, eq_self, ne_eq, reduceCtorEq, or_true, true_or, or_false, false_or, Bool.or_true, Bool.or_false, Bool.true_or, Bool.false_or, Nat.zero_le, Int.le_refl, Int.ofNat_zero, Int.ofNat_one, Bool.false_eq_true]
        try simp only [ab_in]
        (repeat' (first | intro _ | refine And.intro ?_ ?_)) <;> (first | exact i0 | contradiction | omega | (exfalso; omega))
set_option maxRecDepth 100000 in
set_option maxHeartbeats 4000000 in
theorem pass_y {base : Nat} {K : Option AV → AH → Prop} {V : AVt} {h h2 : AH} {a : Nat} {N : SN} {M : SM} {q : Nat} {k z : Nat} (hV : ab_Hv tbX4 lw_ts base cX4_pass ca_X4_pass 0 61 12200 K V) (hkz : k ≤ 61 ∧ z ≤ 12200) {d : Int → Int} (hq2 : h2 q = some (.inr (.inl (0, 4, d)))) (hdB : dyB d) {x : Int} (hx : 0 ≤ x ∧ x ≤ 11) {w4 w5 w6 w7 w8 w9 w10 w11 : Option AV}
    (hE : ∀ h3, h3 q = h2 q → simAt h3 a (N, M.s_rt (rotP M (d 3) (8 * (x + 1)))) → ab_fo h h3 (simIn N a) → V 188 [some (.inr (.inl (some a))), some (.inr (.inl (some q))), some (.inl (x + 1)), some (.inl (8)), w4, w5, w6, w7, w8, w9, w10, w11] [] h3 k z) :
    ∀ (m : Nat) (y : Int) (h3 : AH), y + m = 8 → 0 ≤ y → h3 q = h2 q → simAt h3 a (N, M.s_rt (rotP M (d 3) (8 * x + y))) → ab_fo h h3 (simIn N a) → (∀ x y, 0 ≤ M.rt x y ∧ M.rt x y ≤ 9) → V 196 [some (.inr (.inl (some a))), some (.inr (.inl (some q))), some (.inl (x)), some (.inl (y)), w4, w5, w6, w7, w8, w9, w10, w11] [] h3 k z := by
  intro m
  induction m with
  | zero =>
    intro y h3 hy h0 hq g1 g2 hmr
    have e : y = 8 := by omega
    subst e
    have i0 := hE h3 hq (by rw [show 8 * (x + 1) = 8 * x + 8 by omega]; exact g1) g2
    refine hV (fun p => bif p == 33 then true else bif p == 44 then true else bif p == 84 then true else bif p == 115 then true else bif p == 164 then true else bif p == 180 then true else bif p == 188 then true else bif p == 196 then true else p == 252) 80 _ _ _ _ _ _ ?_
    simp only [bI_in, bI_0, bI_1, bI_t, bI_f, bI_01, ae_aaload, ae_aload_n, ae_bipush, ae_dup2, ae_getfield, ae_goto, ae_iadd, ae_iaload, ae_iastore, ae_iconst, ae_if_icmp, ae_iinc, ae_iload_n, ae_invokevirtual, dX4_pass_196, dX4_pass_197, dX4_pass_199, dX4_pass_202, dX4_pass_203, dX4_pass_204, dX4_pass_205, dX4_pass_206, dX4_pass_207, dX4_pass_208, dX4_pass_211, dX4_pass_212, dX4_pass_215, dX4_pass_216, dX4_pass_219, dX4_pass_220, dX4_pass_221, dX4_pass_222, dX4_pass_223, dX4_pass_225, dX4_pass_228, dX4_pass_229, dX4_pass_232, dX4_pass_233, dX4_pass_234, dX4_pass_235, dX4_pass_236, dX4_pass_237, dX4_pass_238, dX4_pass_239, dX4_pass_240, dX4_pass_243, dX4_pass_246, dX4_pass_249, tbX4_g16, ca_X4_pass_57, ca_X4_pass_31, ca_X4_pass_53, ab_wp0, ab_wps, ab_stp, ab_g, ab_st, ab_k2, ab_cl, ab_pop, ab_sz, ab_2, ab_ret, ab_f4, ab_tg, ab_I, ab_II, ab_A, ab_Rf, ab_VR, ab_IR, ab_VIR, ab_1, ab_LL, ab_DD, ab_ob, ab_pr, ab_qr, ab_ln, ab_so, ab_vI, ab_vA, ab_vD, ab_vL, ab_v2, ab_c, ab_fit, ab_rv, ab_tsw, ab_lsw, ab_up_eq, Fin.isValue, ab_f0, ab_f1, ab_f2, ab_f3, List.getElem?_cons_zero, List.getElem?_cons_succ, List.set_cons_zero, List.set_cons_succ, List.length_cons, List.length_nil, List.size_toArray, List.head?_cons, List.tail_cons, Option.map_some, cond_true, cond_false, true_and, and_true, false_and, and_false, not_true_eq_false, not_false_eq_true, true_imp_iff, false_imp_iff, if_true, if_false, ite_true, ite_false, ↓reduceIte, Nat.reduceAdd, Nat.reduceEqDiff, Nat.reduceLeDiff, Nat.reduceLT, Nat.reduceBEq, Nat.reduceBNe, Int.reduceAdd, Int.reduceNeg, Int.reduceSub, Int.reduceLE, Int.reduceLT, Int.reduceToNat, Int.reduceEq, Int.reduceMul, Int.cast_ofNat_Int, Nat.zero_add, Nat.add_zero, Nat.le_refl, eq_self, ne_eq, reduceCtorEq, or_true, true_or, or_false, false_or, Bool.or_true, Bool.or_false, Bool.true_or, Bool.false_or, Nat.zero_le, Int.le_refl, Int.ofNat_zero, Int.ofNat_one, Bool.false_eq_true]
    try simp only [ab_in]
    (repeat' (first | intro _ | refine And.intro ?_ ?_)) <;> (first | exact i0 | contradiction | omega | (exfalso; omega))
  | succ m ih =>
    intro y h3 hy h0 hq g1 g2 hmr
    obtain ⟨mb, D, nd, D0, D1, D2, r0, r1, r2⟩ := id g1
    have hsl0 := mb.1
    have hn0 := mb.2.2.2.1
    dsimp only at D D0 D1 D2 r0 r1 r2 hsl0 hn0
    have hlt : ¬ 8 ≤ y := by omega
    obtain ⟨p, hp, hpc⟩ := r1.1 x (by omega) (by omega)
    have hpc : h3 p = some (.inr (.inl (0, 8, rotP M (d 3) (8 * x + y) x))) := hpc
    have hqc : h3 q = some (.inr (.inl (0, 4, d))) := hq.trans hq2
    have hpq : ¬ p = q := by rintro rfl; rw [hqc] at hpc; cases hpc
    obtain ⟨d0, d1, d2, d3⟩ := id hdB
    have hsg := sim_of g1
    have hr9 := hmr x y
    have hat := rotP_at M (d 3) x y
    have hc9 := comesS_rt M (rotP M (d 3) (8 * x + y)) (d 3) x (7 - y).toNat
    have hcr := comesS_r (M := M) (x := x) d3 (7 - y).toNat
    have hbb : 0 ≤ x ∧ x ≤ 11 ∧ 0 ≤ y ∧ y ≤ 7 := by omega
    by_cases hc : 5 < comesS M (d 3) x (7 - y).toNat
    · by_cases h9 : M.rt x y < 9
      · have ev : M.rt x y + 1 = rotG M (d 3) x y := by unfold rotG; rw [if_pos ⟨hc, h9⟩]
        have e8 := rotP_s (M := M) (rain := d 3) hbb ev
        have g3 := sim_rt g1 hp (v := ab_uf (rotP M (d 3) (8 * x + y) x) y (M.rt x y + 1)) (by
          intro y2
          simp only [ab_uf]
          split
          · omega
          · exact rotP_r hmr _ _ _ _)
        have g4 : simAt (ab_up h3 p (.inr (.inl (0, 8, ab_uf (rotP M (d 3) (8 * x + y) x) y (M.rt x y + 1))))) a (N, M.s_rt (rotP M (d 3) (8 * x + (y + 1)))) := by
          rw [← e8]
          exact g3
        have i0 := ih (y + 1) _ (by omega) (by omega) (by rw [ab_up_ap, if_neg (fun e => hpq e.symm)]; exact hq) g4 (g2.up2 (Or.inl (Or.inr (Or.inr (Or.inr (Or.inr (Or.inr (Or.inl ⟨_, hp⟩)))))))) hmr
        clear r0 r1 r2 mb hsl0 hE ih g3 g4 hmr e8
        refine hV (fun p => bif p == 33 then true else bif p == 44 then true else bif p == 84 then true else bif p == 115 then true else bif p == 164 then true else bif p == 180 then true else bif p == 188 then true else bif p == 196 then true else p == 252) 80 _ _ _ _ _ _ ?_
        simp only [hlt, hqc, hpc, hp, D, D1, hsg, hc9, hat, hc, h9, bI_in, bI_0, bI_1, bI_t, bI_f, bI_01, Tr_X4_comes, ae_aaload, ae_aload_n, ae_bipush, ae_dup2, ae_getfield, ae_goto, ae_iadd, ae_iaload, ae_iastore, ae_iconst, ae_if_icmp, ae_iinc, ae_iload_n, ae_invokevirtual, dX4_pass_196, dX4_pass_197, dX4_pass_199, dX4_pass_202, dX4_pass_203, dX4_pass_204, dX4_pass_205, dX4_pass_206, dX4_pass_207, dX4_pass_208, dX4_pass_211, dX4_pass_212, dX4_pass_215, dX4_pass_216, dX4_pass_219, dX4_pass_220, dX4_pass_221, dX4_pass_222, dX4_pass_223, dX4_pass_225, dX4_pass_228, dX4_pass_229, dX4_pass_232, dX4_pass_233, dX4_pass_234, dX4_pass_235, dX4_pass_236, dX4_pass_237, dX4_pass_238, dX4_pass_239, dX4_pass_240, dX4_pass_243, tbX4_g16, ca_X4_pass_57, ca_X4_pass_31, ca_X4_pass_53, ab_wp0, ab_wps, ab_stp, ab_g, ab_st, ab_k2, ab_cl, ab_pop, ab_sz, ab_2, ab_ret, ab_f4, ab_tg, ab_I, ab_II, ab_A, ab_Rf, ab_VR, ab_IR, ab_VIR, ab_1, ab_LL, ab_DD, ab_ob, ab_pr, ab_qr, ab_ln, ab_so, ab_vI, ab_vA, ab_vD, ab_vL, ab_v2, ab_c, ab_fit, ab_rv, ab_tsw, ab_lsw, ab_up_eq, Fin.isValue, ab_f0, ab_f1, ab_f2, ab_f3, List.getElem?_cons_zero, List.getElem?_cons_succ, List.set_cons_zero, List.set_cons_succ, List.length_cons, List.length_nil, List.size_toArray, List.head?_cons, List.tail_cons, Option.map_some, cond_true, cond_false, true_and, and_true, false_and, and_false, not_true_eq_false, not_false_eq_true, true_imp_iff, false_imp_iff, if_true, if_false, ite_true, ite_false, ↓reduceIte, Nat.reduceAdd, Nat.reduceEqDiff, Nat.reduceLeDiff, Nat.reduceLT, Nat.reduceBEq, Nat.reduceBNe, Int.reduceAdd, Int.reduceNeg, Int.reduceSub, Int.reduceLE, Int.reduceLT, Int.reduceToNat, Int.reduceEq, Int.reduceMul, Int.cast_ofNat_Int, Nat.zero_add, Nat.add_zero, Nat.le_refl, eq_self, ne_eq, reduceCtorEq, or_true, true_or, or_false, false_or, Bool.or_true, Bool.or_false, Bool.true_or, Bool.false_or, Nat.zero_le, Int.le_refl, Int.ofNat_zero, Int.ofNat_one, Bool.false_eq_true]
        try simp only [ab_in]
        (repeat' (first | intro _ | refine And.intro ?_ ?_)) <;> (first | exact i0 | exact rfl | contradiction | omega | (exfalso; omega))
      · have i0 := ih (y + 1) h3 (by omega) (by omega) hq (by rw [← rotP_n hbb (by unfold rotG; rw [if_neg (fun q => h9 q.2)])]; exact g1) g2 hmr
        clear r0 r1 r2 mb hsl0 hE ih hmr
        refine hV (fun p => bif p == 33 then true else bif p == 44 then true else bif p == 84 then true else bif p == 115 then true else bif p == 164 then true else bif p == 180 then true else bif p == 188 then true else bif p == 196 then true else p == 252) 80 _ _ _ _ _ _ ?_
        simp only [hlt, hqc, hpc, hp, D, D1, hsg, hc9, hat, hc, h9, bI_in, bI_0, bI_1, bI_t, bI_f, bI_01, Tr_X4_comes, ae_aaload, ae_aload_n, ae_bipush, ae_dup2, ae_getfield, ae_goto, ae_iadd, ae_iaload, ae_iastore, ae_iconst, ae_if_icmp, ae_iinc, ae_iload_n, ae_invokevirtual, dX4_pass_196, dX4_pass_197, dX4_pass_199, dX4_pass_202, dX4_pass_203, dX4_pass_204, dX4_pass_205, dX4_pass_206, dX4_pass_207, dX4_pass_208, dX4_pass_211, dX4_pass_212, dX4_pass_215, dX4_pass_216, dX4_pass_219, dX4_pass_220, dX4_pass_221, dX4_pass_222, dX4_pass_223, dX4_pass_225, dX4_pass_228, dX4_pass_229, dX4_pass_232, dX4_pass_233, dX4_pass_234, dX4_pass_235, dX4_pass_236, dX4_pass_237, dX4_pass_238, dX4_pass_239, dX4_pass_240, dX4_pass_243, tbX4_g16, ca_X4_pass_57, ca_X4_pass_31, ca_X4_pass_53, ab_wp0, ab_wps, ab_stp, ab_g, ab_st, ab_k2, ab_cl, ab_pop, ab_sz, ab_2, ab_ret, ab_f4, ab_tg, ab_I, ab_II, ab_A, ab_Rf, ab_VR, ab_IR, ab_VIR, ab_1, ab_LL, ab_DD, ab_ob, ab_pr, ab_qr, ab_ln, ab_so, ab_vI, ab_vA, ab_vD, ab_vL, ab_v2, ab_c, ab_fit, ab_rv, ab_tsw, ab_lsw, ab_up_eq, Fin.isValue, ab_f0, ab_f1, ab_f2, ab_f3, List.getElem?_cons_zero, List.getElem?_cons_succ, List.set_cons_zero, List.set_cons_succ, List.length_cons, List.length_nil, List.size_toArray, List.head?_cons, List.tail_cons, Option.map_some, cond_true, cond_false, true_and, and_true, false_and, and_false, not_true_eq_false, not_false_eq_true, true_imp_iff, false_imp_iff, if_true, if_false, ite_true, ite_false, ↓reduceIte, Nat.reduceAdd, Nat.reduceEqDiff, Nat.reduceLeDiff, Nat.reduceLT, Nat.reduceBEq, Nat.reduceBNe, Int.reduceAdd, Int.reduceNeg, Int.reduceSub, Int.reduceLE, Int.reduceLT, Int.reduceToNat, Int.reduceEq, Int.reduceMul, Int.cast_ofNat_Int, Nat.zero_add, Nat.add_zero, Nat.le_refl, eq_self, ne_eq, reduceCtorEq, or_true, true_or, or_false, false_or, Bool.or_true, Bool.or_false, Bool.true_or, Bool.false_or, Nat.zero_le, Int.le_refl, Int.ofNat_zero, Int.ofNat_one, Bool.false_eq_true]
        try simp only [ab_in]
        (repeat' (first | intro _ | refine And.intro ?_ ?_)) <;> (first | exact i0 | exact rfl | contradiction | omega | (exfalso; omega))
    · have i0 := ih (y + 1) h3 (by omega) (by omega) hq (by rw [← rotP_n hbb (by unfold rotG; rw [if_neg (fun q => hc q.1)])]; exact g1) g2 hmr
      clear r0 r1 r2 mb hsl0 hE ih hmr
      refine hV (fun p => bif p == 33 then true else bif p == 44 then true else bif p == 84 then true else bif p == 115 then true else bif p == 164 then true else bif p == 180 then true else bif p == 188 then true else bif p == 196 then true else p == 252) 80 _ _ _ _ _ _ ?_
      simp only [hlt, hqc, hpc, hp, D, D1, hsg, hc9, hc, bI_in, bI_0, bI_1, bI_t, bI_f, bI_01, Tr_X4_comes, ae_aaload, ae_aload_n, ae_bipush, ae_dup2, ae_getfield, ae_goto, ae_iadd, ae_iaload, ae_iastore, ae_iconst, ae_if_icmp, ae_iinc, ae_iload_n, ae_invokevirtual, dX4_pass_196, dX4_pass_197, dX4_pass_199, dX4_pass_202, dX4_pass_203, dX4_pass_204, dX4_pass_205, dX4_pass_206, dX4_pass_207, dX4_pass_208, dX4_pass_211, dX4_pass_212, dX4_pass_215, dX4_pass_216, dX4_pass_219, dX4_pass_220, dX4_pass_221, dX4_pass_222, dX4_pass_223, dX4_pass_225, dX4_pass_228, dX4_pass_229, dX4_pass_232, dX4_pass_233, dX4_pass_234, dX4_pass_235, dX4_pass_236, dX4_pass_237, dX4_pass_238, dX4_pass_239, dX4_pass_240, dX4_pass_243, tbX4_g16, ca_X4_pass_57, ca_X4_pass_31, ca_X4_pass_53, ab_wp0, ab_wps, ab_stp, ab_g, ab_st, ab_k2, ab_cl, ab_pop, ab_sz, ab_2, ab_ret, ab_f4, ab_tg, ab_I, ab_II, ab_A, ab_Rf, ab_VR, ab_IR, ab_VIR, ab_1, ab_LL, ab_DD, ab_ob, ab_pr, ab_qr, ab_ln, ab_so, ab_vI, ab_vA, ab_vD, ab_vL, ab_v2, ab_c, ab_fit, ab_rv, ab_tsw, ab_lsw, ab_up_eq, Fin.isValue, ab_f0, ab_f1, ab_f2, ab_f3, List.getElem?_cons_zero, List.getElem?_cons_succ, List.set_cons_zero, List.set_cons_succ, List.length_cons, List.length_nil, List.size_toArray, List.head?_cons, List.tail_cons, Option.map_some, cond_true, cond_false, true_and, and_true, false_and, and_false, not_true_eq_false, not_false_eq_true, true_imp_iff, false_imp_iff, if_true, if_false, ite_true, ite_false, ↓reduceIte, Nat.reduceAdd, Nat.reduceEqDiff, Nat.reduceLeDiff, Nat.reduceLT, Nat.reduceBEq, Nat.reduceBNe, Int.reduceAdd, Int.reduceNeg, Int.reduceSub, Int.reduceLE, Int.reduceLT, Int.reduceToNat, Int.reduceEq, Int.reduceMul, Int.cast_ofNat_Int, Nat.zero_add, Nat.add_zero, Nat.le_refl, eq_self, ne_eq, reduceCtorEq, or_true, true_or, or_false, false_or, Bool.or_true, Bool.or_false, Bool.true_or, Bool.false_or, Nat.zero_le, Int.le_refl, Int.ofNat_zero, Int.ofNat_one, Bool.false_eq_true]
      try simp only [ab_in]
      (repeat' (first | intro _ | refine And.intro ?_ ?_)) <;> (first | exact i0 | exact rfl | contradiction | omega | (exfalso; omega))
set_option maxRecDepth 100000 in
set_option maxHeartbeats 4000000 in
theorem sem_X4_pass (base : Nat) : ab_Sem tbX4 lw_ts base cX4_pass ca_X4_pass 0 12 61 12200 (fun as => ab_en as 12) Tr_X4_pass := by
  intro as h K hT V hV
  unfold Tr_X4_pass at hT
  split at hT
  · rename_i a
    obtain ⟨⟨N, M⟩, hP, hs, hK⟩ := ab_so_el hT
    have hA := sim_el hP
    obtain ⟨hs1, hs2, hs3⟩ := hs
    dsimp only at hs1 hs2 hs3 hK
    show V 0 [some (.inr (.inl (some a))), none, none, none, none, none, none, none, none, none, none, none] [] h 0 0
    obtain ⟨mb, D, nd, D0, D1, D2, r0, r1, r2⟩ := id hA
    have hsl0 := mb.1
    have hn0 := mb.2.2.2.1
    dsimp only at D D0 D1 D2 r0 r1 r2 hsl0 hn0
    have hdy0 := mb.2.2.1 (M.day % 7)
    have hday := mb.2.2.2.2.1
    dsimp only at hday
    obtain ⟨q, hqf, hqc⟩ := r2.1 (M.day % 7) (by omega) (by omega)
    have etm : Int.tmod M.day 7 = M.day % 7 := Int.tmod_eq_emod_of_nonneg hday.1
    generalize hdd : M.dy (M.day % 7) = d at *
    have hpass : passS M = (rotU (crkS (stormS M (d 0) (d 1)) (d 2)) (d 3)).s_day ((rotU (crkS (stormS M (d 0) (d 1)) (d 2)) (d 3)).day + 1) := by simp only [passS, hdd]
    obtain ⟨o1, o2, o3, o4⟩ := stormS_o M (d 0) (d 1)
    rw [hpass] at hK
    generalize hM1 : stormS M (d 0) (d 1) = M1 at *
    have aft : ∀ h1, simAt h1 a (N, M1) → ab_fo h h1 (simIn N a) → V 33 [some (.inr (.inl (some a))), some (.inr (.inl (some q))), none, none, none, none, none, none, none, none, none, none] [] h1 61 12200 := by
      intro h1 g1 g2
      have hq1 : h1 q = some (.inr (.inl (0, 4, d))) := by
        have := (rows_some g1.2.2.2.2.2.2.2.2 (k := M.day % 7) hqf).2
        dsimp only at this
        rw [o3, hdd] at this
        exact this
      have fin : ∀ h3 w3 w4 w5 w6 w7 w8 w9 w10 w11, simAt h3 a (N, rotU (crkS M1 (d 2)) (d 3)) → ab_fo h h3 (simIn N a) → V 188 [some (.inr (.inl (some a))), some (.inr (.inl (some q))), some (.inl (12)), w3, w4, w5, w6, w7, w8, w9, w10, w11] [] h3 61 12200 := by
        intro h3 w3 w4 w5 w6 w7 w8 w9 w10 w11 u1 u2
        have hday3 : (rotU (crkS M1 (d 2)) (d 3)).day = M.day := o4
        have u3 := sim_obj u1 (d := (rotU (crkS M1 (d 2)) (d 3)).day + 1) (t := (rotU (crkS M1 (d 2)) (d 3)).tk) (by rw [hday3]; omega) u1.1.2.2.2.2.2
        have hk2 := hK _ (sim_of u3) (u2.up2 (Or.inl (Or.inl rfl)))
        have D9 := u1.2.1
        dsimp only at D9
        generalize rotU (crkS M1 (d 2)) (d 3) = Q at *
        clear r0 r1 r2 mb hsl0 hK
        refine hV (fun p => bif p == 33 then true else bif p == 44 then true else bif p == 84 then true else bif p == 115 then true else bif p == 164 then true else bif p == 180 then true else bif p == 188 then true else bif p == 196 then true else bif p == 240 then true else p == 240) 80 _ _ _ _ _ _ ?_
        simp only [D9, bI_in, bI_0, bI_1, bI_t, bI_f, bI_01, ae_aaload, ae_aload_n, ae_bipush, ae_dup, ae_dup2, ae_getfield, ae_goto, ae_iadd, ae_iaload, ae_iastore, ae_iconst, ae_if_icmp, ae_iinc, ae_iload_n, ae_invokevirtual, ae_istore_n, ae_putfield, ae_return_, dX4_pass_188, dX4_pass_189, dX4_pass_191, dX4_pass_194, dX4_pass_195, dX4_pass_196, dX4_pass_197, dX4_pass_199, dX4_pass_202, dX4_pass_203, dX4_pass_204, dX4_pass_205, dX4_pass_206, dX4_pass_207, dX4_pass_208, dX4_pass_211, dX4_pass_212, dX4_pass_215, dX4_pass_216, dX4_pass_219, dX4_pass_220, dX4_pass_221, dX4_pass_222, dX4_pass_223, dX4_pass_225, dX4_pass_228, dX4_pass_229, dX4_pass_232, dX4_pass_233, dX4_pass_234, dX4_pass_235, dX4_pass_236, dX4_pass_237, dX4_pass_238, dX4_pass_239, dX4_pass_240, dX4_pass_243, dX4_pass_246, dX4_pass_249, dX4_pass_252, dX4_pass_253, dX4_pass_254, dX4_pass_257, dX4_pass_258, dX4_pass_259, dX4_pass_262, tbX4_g16, tbX4_g27, tbX4_p27, ca_X4_pass_57, ca_X4_pass_31, ca_X4_pass_53, ab_wp0, ab_wps, ab_stp, ab_g, ab_st, ab_k2, ab_cl, ab_pop, ab_sz, ab_2, ab_ret, ab_f4, ab_tg, ab_I, ab_II, ab_A, ab_Rf, ab_VR, ab_IR, ab_VIR, ab_1, ab_LL, ab_DD, ab_ob, ab_pr, ab_qr, ab_ln, ab_so, ab_vI, ab_vA, ab_vD, ab_vL, ab_v2, ab_c, ab_fit, ab_rv, ab_tsw, ab_lsw, ab_up_eq, Fin.isValue, ab_f0, ab_f1, ab_f2, ab_f3, List.getElem?_cons_zero, List.getElem?_cons_succ, List.set_cons_zero, List.set_cons_succ, List.length_cons, List.length_nil, List.size_toArray, List.head?_cons, List.tail_cons, Option.map_some, cond_true, cond_false, true_and, and_true, false_and, and_false, not_true_eq_false, not_false_eq_true, true_imp_iff, false_imp_iff, if_true, if_false, ite_true, ite_false, ↓reduceIte, Nat.reduceAdd, Nat.reduceEqDiff, Nat.reduceLeDiff, Nat.reduceLT, Nat.reduceBEq, Nat.reduceBNe, Int.reduceAdd, Int.reduceNeg, Int.reduceSub, Int.reduceLE, Int.reduceLT, Int.reduceToNat, Int.reduceEq, Int.reduceMul, Int.cast_ofNat_Int, Nat.zero_add, Nat.add_zero, Nat.le_refl, eq_self, ne_eq, reduceCtorEq, or_true, true_or, or_false, false_or, Bool.or_true, Bool.or_false, Bool.true_or, Bool.false_or, Nat.zero_le, Int.le_refl, Int.ofNat_zero, Int.ofNat_one, Bool.false_eq_true]
        try simp only [ab_in]
        (repeat' (first | intro _ | refine And.intro ?_ ?_)) <;> (first | exact hk2 | contradiction | omega | (exfalso; omega))
      have rx : ∀ (mx : Nat) (x : Int) (w3 w4 w5 w6 w7 w8 w9 w10 w11 : Option AV) (h3 : AH), x + mx = 12 → 0 ≤ x → h3 q = h1 q → simAt h3 a (N, (crkS M1 (d 2)).s_rt (rotP (crkS M1 (d 2)) (d 3) (8 * x))) → ab_fo h h3 (simIn N a) → V 188 [some (.inr (.inl (some a))), some (.inr (.inl (some q))), some (.inl (x)), w3, w4, w5, w6, w7, w8, w9, w10, w11] [] h3 61 12200 := by
        intro mx
        induction mx with
        | zero =>
          intro x w3 w4 w5 w6 w7 w8 w9 w10 w11 h3 hx h0 hq u1 u2
          have e : x = 12 := by omega
          subst e
          exact fin h3 w3 w4 w5 w6 w7 w8 w9 w10 w11 u1 u2
        | succ mx ih =>
          intro x w3 w4 w5 w6 w7 w8 w9 w10 w11 h3 hx h0 hq u1 u2
          have hlt : ¬ 12 ≤ x := by omega
          have i0 := pass_y (h := h) (h2 := h1) hV ⟨Nat.le_refl _, Nat.le_refl _⟩ (M := crkS M1 (d 2)) hq1 hdy0 (x := x) (by omega) (w4 := w4) (w5 := w5) (w6 := w6) (w7 := w7) (w8 := w8) (w9 := w9) (w10 := w10) (w11 := w11) (fun h4 v1 v2 v3 => ih (x + 1) _ w4 w5 w6 w7 w8 w9 w10 w11 h4 (by omega) (by omega) v1 v2 v3) 8 0 h3 (by omega) (by omega) hq (by rw [Int.add_zero]; exact u1) u2 g1.1.2.1
          clear r0 r1 r2 mb hsl0 hK fin ih
          refine hV (fun p => bif p == 33 then true else bif p == 44 then true else bif p == 84 then true else bif p == 115 then true else bif p == 164 then true else bif p == 180 then true else bif p == 188 then true else bif p == 196 then true else bif p == 240 then true else p == 252) 80 _ _ _ _ _ _ ?_
          simp only [hlt, bI_in, bI_0, bI_1, bI_t, bI_f, bI_01, ae_bipush, ae_iconst, ae_if_icmp, ae_iload_n, ae_istore_n, dX4_pass_188, dX4_pass_189, dX4_pass_191, dX4_pass_194, dX4_pass_195, ca_X4_pass_57, ca_X4_pass_31, ca_X4_pass_53, ab_wp0, ab_wps, ab_stp, ab_g, ab_st, ab_k2, ab_cl, ab_pop, ab_sz, ab_2, ab_ret, ab_f4, ab_tg, ab_I, ab_II, ab_A, ab_Rf, ab_VR, ab_IR, ab_VIR, ab_1, ab_LL, ab_DD, ab_ob, ab_pr, ab_qr, ab_ln, ab_so, ab_vI, ab_vA, ab_vD, ab_vL, ab_v2, ab_c, ab_fit, ab_rv, ab_tsw, ab_lsw, ab_up_eq, Fin.isValue, ab_f0, ab_f1, ab_f2, ab_f3, List.getElem?_cons_zero, List.getElem?_cons_succ, List.set_cons_zero, List.set_cons_succ, List.length_cons, List.length_nil, List.size_toArray, List.head?_cons, List.tail_cons, Option.map_some, cond_true, cond_false, true_and, and_true, false_and, and_false, not_true_eq_false, not_false_eq_true, true_imp_iff, false_imp_iff, if_true, if_false, ite_true, ite_false, ↓reduceIte, Nat.reduceAdd, Nat.reduceEqDiff, Nat.reduceLeDiff, Nat.reduceLT, Nat.reduceBEq, Nat.reduceBNe, Int.reduceAdd, Int.reduceNeg, Int.reduceSub, Int.reduceLE, Int.reduceLT, Int.reduceToNat, Int.reduceEq, Int.reduceMul, Int.cast_ofNat_Int, Nat.zero_add, Nat.add_zero, Nat.le_refl, eq_self, ne_eq, reduceCtorEq, or_true, true_or, or_false, false_or, Bool.or_true, Bool.or_false, Bool.true_or, Bool.false_or, Nat.zero_le, Int.le_refl, Int.ofNat_zero, Int.ofNat_one, Bool.false_eq_true]
          try simp only [ab_in]
          (repeat' (first | intro _ | refine And.intro ?_ ?_)) <;> (first | exact i0 | contradiction | omega | (exfalso; omega))
      have kE : ∀ w5 w6 w7 w8 w9 w10 w11 h3, h3 q = h1 q → simAt h3 a (N, M1.s_sl (crkF M1.sl (crkG M1 (d 2)) M1.n)) → ab_fo h h3 (simIn N a) → V 44 [some (.inr (.inl (some a))), some (.inr (.inl (some q))), some (.inr (.inl (some N.1))), some (.inl ((M1.n : Int))), some (.inl ((M1.n : Int))), w5, w6, w7, w8, w9, w10, w11] [] h3 61 12200 := by
        intro w5 w6 w7 w8 w9 w10 w11 h3 hq u1 u2
        have i0 := rx 12 0 (some (.inl (M1.n : Int))) (some (.inl (M1.n : Int))) w5 w6 w7 w8 w9 w10 w11 h3 (by omega) (by omega) hq (by
          have : rotP (crkS M1 (d 2)) (d 3) (8 * 0) = (crkS M1 (d 2)).rt := rotP_0 _ _
          rw [this]; exact u1) u2
        have hn9 : M1.n ≤ 200 := g1.1.2.2.2.1
        have hle : (M1.n : Int) ≤ (M1.n : Int) := Int.le_refl _
        clear r0 r1 r2 mb hsl0 hK fin rx
        refine hV (fun p => bif p == 33 then true else bif p == 44 then true else bif p == 84 then true else bif p == 115 then true else bif p == 164 then true else bif p == 180 then true else bif p == 188 then true else bif p == 196 then true else bif p == 240 then true else p == 252) 80 _ _ _ _ _ _ ?_
        simp only [hle, bI_in, bI_0, bI_1, bI_t, bI_f, bI_01, ae_aaload, ae_aload, ae_aload_n, ae_arraylength, ae_astore, ae_getfield, ae_goto, ae_iadd, ae_iaload, ae_iastore, ae_iconst, ae_ifCond, ae_if_icmp, ae_iinc, ae_iload, ae_iload_n, ae_invokestatic, ae_istore, ae_istore_n, dX4_pass_44, dX4_pass_46, dX4_pass_47, dX4_pass_50, dX4_pass_51, dX4_pass_53, dX4_pass_54, dX4_pass_56, dX4_pass_58, dX4_pass_59, dX4_pass_60, dX4_pass_63, dX4_pass_64, dX4_pass_65, dX4_pass_66, dX4_pass_68, dX4_pass_69, dX4_pass_70, dX4_pass_71, dX4_pass_72, dX4_pass_75, dX4_pass_78, dX4_pass_80, dX4_pass_81, dX4_pass_82, dX4_pass_84, dX4_pass_86, dX4_pass_88, dX4_pass_89, dX4_pass_90, dX4_pass_92, dX4_pass_93, dX4_pass_94, dX4_pass_95, dX4_pass_98, dX4_pass_99, dX4_pass_101, dX4_pass_102, dX4_pass_105, dX4_pass_107, dX4_pass_109, dX4_pass_110, dX4_pass_112, dX4_pass_113, dX4_pass_115, dX4_pass_117, dX4_pass_119, dX4_pass_122, dX4_pass_124, dX4_pass_126, dX4_pass_127, dX4_pass_129, dX4_pass_131, dX4_pass_134, dX4_pass_136, dX4_pass_138, dX4_pass_139, dX4_pass_140, dX4_pass_141, dX4_pass_142, dX4_pass_144, dX4_pass_145, dX4_pass_148, dX4_pass_151, dX4_pass_152, dX4_pass_155, dX4_pass_156, dX4_pass_158, dX4_pass_161, dX4_pass_164, dX4_pass_166, dX4_pass_169, dX4_pass_171, dX4_pass_172, dX4_pass_173, dX4_pass_174, dX4_pass_177, dX4_pass_180, dX4_pass_183, dX4_pass_186, dX4_pass_187, dX4_pass_188, tbX4_g9, ca_X4_pass_57, ca_X4_pass_31, ca_X4_pass_53, ab_wp0, ab_wps, ab_stp, ab_g, ab_st, ab_k2, ab_cl, ab_pop, ab_sz, ab_2, ab_ret, ab_f4, ab_tg, ab_I, ab_II, ab_A, ab_Rf, ab_VR, ab_IR, ab_VIR, ab_1, ab_LL, ab_DD, ab_ob, ab_pr, ab_qr, ab_ln, ab_so, ab_vI, ab_vA, ab_vD, ab_vL, ab_v2, ab_c, ab_fit, ab_rv, ab_tsw, ab_lsw, ab_up_eq, Fin.isValue, ab_f0, ab_f1, ab_f2, ab_f3, List.getElem?_cons_zero, List.getElem?_cons_succ, List.set_cons_zero, List.set_cons_succ, List.length_cons, List.length_nil, List.size_toArray, List.head?_cons, List.tail_cons, Option.map_some, cond_true, cond_false, true_and, and_true, false_and, and_false, not_true_eq_false, not_false_eq_true, true_imp_iff, false_imp_iff, if_true, if_false, ite_true, ite_false, ↓reduceIte, Nat.reduceAdd, Nat.reduceEqDiff, Nat.reduceLeDiff, Nat.reduceLT, Nat.reduceBEq, Nat.reduceBNe, Int.reduceAdd, Int.reduceNeg, Int.reduceSub, Int.reduceLE, Int.reduceLT, Int.reduceToNat, Int.reduceEq, Int.reduceMul, Int.cast_ofNat_Int, Nat.zero_add, Nat.add_zero, Nat.le_refl, eq_self, ne_eq, reduceCtorEq, or_true, true_or, or_false, false_or, Bool.or_true, Bool.or_false, Bool.true_or, Bool.false_or, Nat.zero_le, Int.le_refl, Int.ofNat_zero, Int.ofNat_one, Bool.false_eq_true]
        try simp only [ab_in]
        (repeat' (first | intro _ | refine And.intro ?_ ?_)) <;> (first | exact i0 | contradiction | omega | (exfalso; omega))
      have i0 := pass_k (h := h) (h2 := h1) hV ⟨Nat.le_refl _, Nat.le_refl _⟩ (M := M1) hq1 hdy0 kE M1.n 0 none none none none none none none h1 (by omega) rfl (by
        have : crkF M1.sl (crkG M1 (d 2)) ((0 : Nat) : Int) = M1.sl := by funext j; simp only [crkF]; rw [if_neg (by omega)]
        rw [this]; exact g1) g2
      have D9 := g1.2.1
      have D8 := g1.2.2.2.1
      dsimp only at D9 D8
      clear r0 r1 r2 mb hsl0 hK fin rx kE
      refine hV (fun p => bif p == 33 then true else bif p == 44 then true else bif p == 84 then true else bif p == 115 then true else bif p == 164 then true else bif p == 180 then true else bif p == 188 then true else bif p == 196 then true else bif p == 240 then true else p == 252) 80 _ _ _ _ _ _ ?_
      simp only [D9, D8, bI_in, bI_0, bI_1, bI_t, bI_f, bI_01, ae_aload_n, ae_arraylength, ae_astore_n, ae_getfield, ae_iconst, ae_istore, ae_istore_n, dX4_pass_33, dX4_pass_34, dX4_pass_37, dX4_pass_38, dX4_pass_39, dX4_pass_40, dX4_pass_41, dX4_pass_42, tbX4_g9, ca_X4_pass_57, ca_X4_pass_31, ca_X4_pass_53, ab_wp0, ab_wps, ab_stp, ab_g, ab_st, ab_k2, ab_cl, ab_pop, ab_sz, ab_2, ab_ret, ab_f4, ab_tg, ab_I, ab_II, ab_A, ab_Rf, ab_VR, ab_IR, ab_VIR, ab_1, ab_LL, ab_DD, ab_ob, ab_pr, ab_qr, ab_ln, ab_so, ab_vI, ab_vA, ab_vD, ab_vL, ab_v2, ab_c, ab_fit, ab_rv, ab_tsw, ab_lsw, ab_up_eq, Fin.isValue, ab_f0, ab_f1, ab_f2, ab_f3, List.getElem?_cons_zero, List.getElem?_cons_succ, List.set_cons_zero, List.set_cons_succ, List.length_cons, List.length_nil, List.size_toArray, List.head?_cons, List.tail_cons, Option.map_some, cond_true, cond_false, true_and, and_true, false_and, and_false, not_true_eq_false, not_false_eq_true, true_imp_iff, false_imp_iff, if_true, if_false, ite_true, ite_false, ↓reduceIte, Nat.reduceAdd, Nat.reduceEqDiff, Nat.reduceLeDiff, Nat.reduceLT, Nat.reduceBEq, Nat.reduceBNe, Int.reduceAdd, Int.reduceNeg, Int.reduceSub, Int.reduceLE, Int.reduceLT, Int.reduceToNat, Int.reduceEq, Int.reduceMul, Int.cast_ofNat_Int, Nat.zero_add, Nat.add_zero, Nat.le_refl, eq_self, ne_eq, reduceCtorEq, or_true, true_or, or_false, false_or, Bool.or_true, Bool.or_false, Bool.true_or, Bool.false_or, Nat.zero_le, Int.le_refl, Int.ofNat_zero, Int.ofNat_one, Bool.false_eq_true]
      try simp only [ab_in]
      (repeat' (first | intro _ | refine And.intro ?_ ?_)) <;> (first | exact i0 | exact rfl | contradiction | omega | (exfalso; omega))
    have aft2 := fun h1 (u1 : ab_sim h1 a = some (N, M1)) u2 => aft h1 (sim_el u1) u2
    obtain ⟨d0, d1, d2, d3⟩ := id hdy0
    clear r0 r1 mb hsl0 hK aft
    rcases d1 with hd1 | hd1
    · rw [hd1] at hM1
      refine hV (fun p => bif p == 33 then true else bif p == 44 then true else bif p == 84 then true else bif p == 115 then true else bif p == 164 then true else bif p == 180 then true else bif p == 188 then true else bif p == 196 then true else bif p == 240 then true else p == 252) 80 _ _ _ _ _ _ ?_
      simp only [D, D2, hqf, hqc, etm, hP, hd1, hM1, bI_in, bI_0, bI_1, bI_t, bI_f, bI_01, Tr_X4_storm, ae_aaload, ae_aload_n, ae_astore_n, ae_bipush, ae_getfield, ae_goto, ae_iaload, ae_iconst, ae_if_icmp, ae_invokevirtual, ae_irem, ae_pop, dX4_pass_0, dX4_pass_1, dX4_pass_4, dX4_pass_5, dX4_pass_8, dX4_pass_10, dX4_pass_11, dX4_pass_12, dX4_pass_13, dX4_pass_14, dX4_pass_15, dX4_pass_16, dX4_pass_17, dX4_pass_18, dX4_pass_19, dX4_pass_20, dX4_pass_21, dX4_pass_24, dX4_pass_25, dX4_pass_28, dX4_pass_29, dX4_pass_32, tbX4_g19, tbX4_g27, ca_X4_pass_57, ca_X4_pass_31, ca_X4_pass_53, ab_wp0, ab_wps, ab_stp, ab_g, ab_st, ab_k2, ab_cl, ab_pop, ab_sz, ab_2, ab_ret, ab_f4, ab_tg, ab_I, ab_II, ab_A, ab_Rf, ab_VR, ab_IR, ab_VIR, ab_1, ab_LL, ab_DD, ab_ob, ab_pr, ab_qr, ab_ln, ab_so, ab_vI, ab_vA, ab_vD, ab_vL, ab_v2, ab_c, ab_fit, ab_rv, ab_tsw, ab_lsw, ab_up_eq, Fin.isValue, ab_f0, ab_f1, ab_f2, ab_f3, List.getElem?_cons_zero, List.getElem?_cons_succ, List.set_cons_zero, List.set_cons_succ, List.length_cons, List.length_nil, List.size_toArray, List.head?_cons, List.tail_cons, Option.map_some, cond_true, cond_false, true_and, and_true, false_and, and_false, not_true_eq_false, not_false_eq_true, true_imp_iff, false_imp_iff, if_true, if_false, ite_true, ite_false, ↓reduceIte, Nat.reduceAdd, Nat.reduceEqDiff, Nat.reduceLeDiff, Nat.reduceLT, Nat.reduceBEq, Nat.reduceBNe, Int.reduceAdd, Int.reduceNeg, Int.reduceSub, Int.reduceLE, Int.reduceLT, Int.reduceToNat, Int.reduceEq, Int.reduceMul, Int.cast_ofNat_Int, Nat.zero_add, Nat.add_zero, Nat.le_refl, eq_self, ne_eq, reduceCtorEq, or_true, true_or, or_false, false_or, Bool.or_true, Bool.or_false, Bool.true_or, Bool.false_or, Nat.zero_le, Int.le_refl, Int.ofNat_zero, Int.ofNat_one, Bool.false_eq_true]
      try simp only [ab_in]
      (repeat' (first | intro _ | refine And.intro ?_ ?_)) <;> (first | exact aft2 _ (by assumption) (by assumption) | exact rfl | contradiction | omega | (exfalso; omega))
    · rw [hd1] at hM1
      refine hV (fun p => bif p == 33 then true else bif p == 44 then true else bif p == 84 then true else bif p == 115 then true else bif p == 164 then true else bif p == 180 then true else bif p == 188 then true else bif p == 196 then true else bif p == 240 then true else p == 252) 80 _ _ _ _ _ _ ?_
      simp only [D, D2, hqf, hqc, etm, hP, hd1, hM1, bI_in, bI_0, bI_1, bI_t, bI_f, bI_01, Tr_X4_storm, ae_aaload, ae_aload_n, ae_astore_n, ae_bipush, ae_getfield, ae_goto, ae_iaload, ae_iconst, ae_if_icmp, ae_invokevirtual, ae_irem, ae_pop, dX4_pass_0, dX4_pass_1, dX4_pass_4, dX4_pass_5, dX4_pass_8, dX4_pass_10, dX4_pass_11, dX4_pass_12, dX4_pass_13, dX4_pass_14, dX4_pass_15, dX4_pass_16, dX4_pass_17, dX4_pass_18, dX4_pass_19, dX4_pass_20, dX4_pass_21, dX4_pass_24, dX4_pass_25, dX4_pass_28, dX4_pass_29, dX4_pass_32, tbX4_g19, tbX4_g27, ca_X4_pass_57, ca_X4_pass_31, ca_X4_pass_53, ab_wp0, ab_wps, ab_stp, ab_g, ab_st, ab_k2, ab_cl, ab_pop, ab_sz, ab_2, ab_ret, ab_f4, ab_tg, ab_I, ab_II, ab_A, ab_Rf, ab_VR, ab_IR, ab_VIR, ab_1, ab_LL, ab_DD, ab_ob, ab_pr, ab_qr, ab_ln, ab_so, ab_vI, ab_vA, ab_vD, ab_vL, ab_v2, ab_c, ab_fit, ab_rv, ab_tsw, ab_lsw, ab_up_eq, Fin.isValue, ab_f0, ab_f1, ab_f2, ab_f3, List.getElem?_cons_zero, List.getElem?_cons_succ, List.set_cons_zero, List.set_cons_succ, List.length_cons, List.length_nil, List.size_toArray, List.head?_cons, List.tail_cons, Option.map_some, cond_true, cond_false, true_and, and_true, false_and, and_false, not_true_eq_false, not_false_eq_true, true_imp_iff, false_imp_iff, if_true, if_false, ite_true, ite_false, ↓reduceIte, Nat.reduceAdd, Nat.reduceEqDiff, Nat.reduceLeDiff, Nat.reduceLT, Nat.reduceBEq, Nat.reduceBNe, Int.reduceAdd, Int.reduceNeg, Int.reduceSub, Int.reduceLE, Int.reduceLT, Int.reduceToNat, Int.reduceEq, Int.reduceMul, Int.cast_ofNat_Int, Nat.zero_add, Nat.add_zero, Nat.le_refl, eq_self, ne_eq, reduceCtorEq, or_true, true_or, or_false, false_or, Bool.or_true, Bool.or_false, Bool.true_or, Bool.false_or, Nat.zero_le, Int.le_refl, Int.ofNat_zero, Int.ofNat_one, Bool.false_eq_true]
      try simp only [ab_in]
      (repeat' (first | intro _ | refine And.intro ?_ ?_)) <;> (first | exact aft2 _ (by assumption) (by assumption) | exact rfl | contradiction | omega | (exfalso; omega))
  · exact hT.elim
set_option maxRecDepth 100000 in
theorem con_X4_pass (l : Launch) (D : va_G) (ty : Nat → ClassId) (base : Nat) : ab_Con l D vwCl ty lw_ts base lw_wd yX4_pass cX4_pass 12 none 10 233 61 12200 Tr_X4_pass :=
  ab_con_of (own := RX4) (rt := 0) (tb := tbX4) (ini := false) (ca := ca_X4_pass) (by decide +kernel) rfl (fun h => by cases h) rfl lw_wd_ok wtbX4 lw_ar cm_X4_pass
    (fun p e R s m args below meth c K hcx => by
      obtain ⟨hx, hb, hml, hown, hF, rfl⟩ := hcx
      exact ab_lk_all (ab_all_c (ab_tc_V hx hb hml hown lw_wd_ok hF ⟨rfl, rfl⟩ (con_X4_storm l D ty base) rfl (lw_wi (by decide +kernel) (by decide +kernel)) (lw_wi (by decide +kernel) (by decide +kernel)) (lw_wi (by decide +kernel) (by decide +kernel)) (lw_wi (by decide +kernel) (by decide +kernel)) (lw_wi (by decide +kernel) (by decide +kernel)) (by decide +kernel) ⟨by decide, by decide⟩) (ab_all_c (ab_tc_S hx hb hml hown lw_wd_ok hF ⟨rfl, rfl⟩ (con_X4_meets l D ty base) (lw_wi (by decide +kernel) (by decide +kernel)) (lw_wi (by decide +kernel) (by decide +kernel)) (lw_wi (by decide +kernel) (by decide +kernel)) (lw_wi (by decide +kernel) (by decide +kernel)) (by decide +kernel) ⟨by decide, by decide⟩) (ab_all_c (ab_tc_V hx hb hml hown lw_wd_ok hF ⟨rfl, rfl⟩ (con_X4_comes l D ty base) rfl (lw_wi (by decide +kernel) (by decide +kernel)) (lw_wi (by decide +kernel) (by decide +kernel)) (lw_wi (by decide +kernel) (by decide +kernel)) (lw_wi (by decide +kernel) (by decide +kernel)) (lw_wi (by decide +kernel) (by decide +kernel)) (by decide +kernel) ⟨by decide, by decide⟩) (ab_all_n)))))
    (by intro as h K ht; unfold Tr_X4_pass at ht; split at ht <;> first | exact ht.elim | exact Nat.le_of_ble_eq_true rfl) (sem_X4_pass base)
