/-! ===== the law's own roof: made, and one slate more ===== -/
def slN (row from9 wide nails : Int) : Int → Int := ab_uf (ab_uf (ab_uf (ab_uf (ab_uf (ab_uf (fun _ => 0) 0 row) 1 from9) 2 wide) 3 nails) 4 0) 5 1
def addS (M : SM) (row from9 wide nails : Int) : SM := (M.n + 1, ab_uf M.sl (M.n : Int) (slN row from9 wide nails), M.rt, M.dy, M.day, M.tk)
def sim0 : SM := (0, (fun _ _ => 0), (fun _ _ => 0), (fun _ _ => 0), 0, 0)
theorem slB_0 : slB (fun _ => 0) := by simp [slB]
theorem dyB_0 : dyB (fun _ => 0) := by simp [dyB]
theorem MB_0 : MB sim0 := ⟨fun _ => slB_0, fun _ _ => by show (0 : Int) ≤ 0 ∧ (0 : Int) ≤ 9; decide, fun _ => dyB_0, Nat.zero_le _, by show (0 : Int) ≤ 0 ∧ (0 : Int) ≤ 1000; decide, by show (0 : Int) ≤ 0 ∧ (0 : Int) ≤ 100000; decide⟩
theorem slN_i (row from9 wide nails : Int) : slN row from9 wide nails 0 = row ∧ slN row from9 wide nails 1 = from9 ∧ slN row from9 wide nails 2 = wide ∧ slN row from9 wide nails 3 = nails ∧ slN row from9 wide nails 4 = 0 ∧ slN row from9 wide nails 5 = 1 := by
  refine ⟨?_, ?_, ?_, ?_, ?_, ?_⟩ <;> simp [slN, ab_uf]
theorem ab_up_up (h : AH) (a : Nat) (c d : AC) : ab_up (ab_up h a c) a d = ab_up h a d := by
  funext b
  simp only [ab_up_ap]
  split <;> rfl
theorem simIn_nn {h : AH} {a : Nat} {P : SN × SM} (h1 : simAt h a P) {b : Nat} (hb : h b = none) : ¬ simIn P.1 a b := fun q => sim_nn h1 q hb
/-- a new row, in a new array of rows -/
theorem sim_add {h : AH} {a g g2 : Nat} {N : SN} {M : SM} (h1 : simAt h a (N, M)) (hg : h g = none) (hg2 : h g2 = none) (hgg : ¬ g2 = g) {v : Int → Int} (hv : slB v) (hn : M.n < 200) :
    simAt (ab_up (ab_up (ab_up h g2 (.inr (.inl (0, 6, v)))) g (.inr (.inr (3, M.n + 1, ab_uf N.2.1 (M.n : Int) (some g2))))) a (.inl (4, [.inr (.inl (some g)), .inr (.inl (some N.2.2.1)), .inr (.inl (some N.2.2.2.2.1)), .inl M.day, .inl M.tk]))) a ((g, ab_uf N.2.1 (M.n : Int) (some g2), N.2.2), (M.n + 1, ab_uf M.sl (M.n : Int) v, M.rt, M.dy, M.day, M.tk)) := by
  obtain ⟨sA, fS, rA, fR, dA, fD⟩ := N
  obtain ⟨mb, c, nd, c0, c1, c2, r0, r1, r2⟩ := id h1
  dsimp only at c nd c0 c1 c2 r0 r1 r2 ⊢
  have nng : ∀ b cc, h b = some cc → ¬ b = g ∧ ¬ b = g2 := fun b cc e => ⟨(by rintro rfl; rw [hg] at e; cases e), (by rintro rfl; rw [hg2] at e; cases e)⟩
  have hag := nng a _ c
  have old : ∀ b cc, h b = some cc → ¬ b = a → ab_up (ab_up (ab_up h g2 (.inr (.inl (0, 6, v)))) g (.inr (.inr (3, M.n + 1, ab_uf fS (M.n : Int) (some g2))))) a (.inl (4, [.inr (.inl (some g)), .inr (.inl (some rA)), .inr (.inl (some dA)), .inl M.day, .inl M.tk])) b = some cc := fun b cc e hb => by
    rw [ab_up_ap, if_neg hb, ab_up_ap, if_neg (nng b cc e).1, ab_up_ap, if_neg (nng b cc e).2, e]
  have nra : ∀ b cc, h b = some cc → (∀ w f, ¬ cc = .inl (w, f)) → ¬ b = a := fun b cc e q => by rintro rfl; exact q _ _ (Option.some.inj (e.symm.trans c))
  have ndG : [g, rA, dA].Nodup := by
    simp only [List.nodup_cons, List.mem_cons, List.not_mem_nil, or_false, not_or, not_false_eq_true, List.nodup_nil, and_true] at nd ⊢
    exact ⟨⟨fun e => (nng _ _ c1).1 e.symm, fun e => (nng _ _ c2).1 e.symm⟩, nd.2⟩
  have R0 : rowsAt (ab_up (ab_up (ab_up h g2 (.inr (.inl (0, 6, v)))) g (.inr (.inr (3, M.n + 1, ab_uf fS (M.n : Int) (some g2))))) a (.inl (4, [.inr (.inl (some g)), .inr (.inl (some rA)), .inr (.inl (some dA)), .inl M.day, .inl M.tk]))) 6 (M.n + 1) (ab_uf fS (M.n : Int) (some g2)) (ab_uf M.sl (M.n : Int) v) := by
    refine ⟨fun k h0 hk => ?_, fun k hk => ?_, fun i j q hi hj => ?_⟩
    · by_cases hkn : k = (M.n : Int)
      · subst hkn
        refine ⟨g2, by simp [ab_uf], ?_⟩
        rw [ab_up_ap, if_neg (fun e => hag.2 e.symm), ab_up_ap, if_neg hgg, ab_up_eq]
        simp [ab_uf]
      · obtain ⟨q, e1, e2⟩ := r0.1 k h0 (by omega)
        refine ⟨q, by simp only [ab_uf]; rw [if_neg hkn]; exact e1, ?_⟩
        have e9 : ab_uf M.sl (M.n : Int) v k = M.sl k := by simp only [ab_uf]; rw [if_neg hkn]
        rw [e9]
        exact old _ _ e2 (nra _ _ e2 (fun _ _ e => by cases e))
    · have hkn : ¬ k = (M.n : Int) := by omega
      have e8 : ab_uf fS (M.n : Int) (some g2) k = fS k := if_neg hkn
      have e9 : ab_uf M.sl (M.n : Int) v k = M.sl k := if_neg hkn
      rw [e8, e9]
      exact r0.2.1 k (by omega)
    · simp only [ab_uf] at hi hj
      split at hi
      · rename_i e1
        split at hj
        · rename_i e2; rw [e1, e2]
        · cases hi
          exact absurd rfl (nng _ _ (rows_some r0 hj).2).2
      · split at hj
        · cases hj
          exact absurd rfl (nng _ _ (rows_some r0 hi).2).2
        · exact r0.2.2 i j q hi hj
  have R1 : rowsAt (ab_up (ab_up (ab_up h g2 (.inr (.inl (0, 6, v)))) g (.inr (.inr (3, M.n + 1, ab_uf fS (M.n : Int) (some g2))))) a (.inl (4, [.inr (.inl (some g)), .inr (.inl (some rA)), .inr (.inl (some dA)), .inl M.day, .inl M.tk]))) 8 12 fR M.rt := rows_keep r1 (fun k q e => (old _ _ (rows_some r1 e).2 (nra _ _ (rows_some r1 e).2 (fun _ _ e => by cases e))).trans (rows_some r1 e).2.symm)
  have R2 : rowsAt (ab_up (ab_up (ab_up h g2 (.inr (.inl (0, 6, v)))) g (.inr (.inr (3, M.n + 1, ab_uf fS (M.n : Int) (some g2))))) a (.inl (4, [.inr (.inl (some g)), .inr (.inl (some rA)), .inr (.inl (some dA)), .inl M.day, .inl M.tk]))) 4 7 fD M.dy := rows_keep r2 (fun k q e => (old _ _ (rows_some r2 e).2 (nra _ _ (rows_some r2 e).2 (fun _ _ e => by cases e))).trans (rows_some r2 e).2.symm)
  have G0 : (ab_up (ab_up (ab_up h g2 (.inr (.inl (0, 6, v)))) g (.inr (.inr (3, M.n + 1, ab_uf fS (M.n : Int) (some g2))))) a (.inl (4, [.inr (.inl (some g)), .inr (.inl (some rA)), .inr (.inl (some dA)), .inl M.day, .inl M.tk]))) g = some (.inr (.inr (3, M.n + 1, ab_uf fS (M.n : Int) (some g2)))) := by rw [ab_up_ap, if_neg (fun e => hag.1 e.symm)]; exact ab_up_eq _ _ _
  have B0 : MB (M.n + 1, ab_uf M.sl (M.n : Int) v, M.rt, M.dy, M.day, M.tk) := by
    refine ⟨fun k => ?_, mb.2.1, mb.2.2.1, by show M.n + 1 ≤ 200; omega, mb.2.2.2.2.1, mb.2.2.2.2.2⟩
    show slB (ab_uf M.sl (M.n : Int) v k)
    simp only [ab_uf]
    split
    · exact hv
    · exact mb.1 k
  exact ⟨B0, ab_up_eq _ _ _, ndG, G0, old _ _ c1 (nra _ _ c1 (fun _ _ e => by cases e)), old _ _ c2 (nra _ _ c2 (fun _ _ e => by cases e)), R0, R1, R2⟩
def cpQ (f : Int → Option Nat) (x : Int) : Int → Option Nat := fun i => if 0 ≤ i ∧ i < x then f i else none
theorem cpQ_s {f : Int → Option Nat} {x : Int} {q : Nat} (h0 : 0 ≤ x) (hq : f x = some q) : ab_uf (cpQ f x) x (some q) = cpQ f (x + 1) := by
  funext i
  simp only [ab_uf, cpQ]
  by_cases hi : i = x
  · subst hi; rw [if_pos rfl, if_pos (by omega), hq]
  · rw [if_neg hi]
    by_cases h2 : 0 ≤ i ∧ i < x
    · rw [if_pos h2, if_pos (by omega)]
    · rw [if_neg h2, if_neg (by omega)]
noncomputable def Tr_X4_add : ATr := fun as h K => match as with
  | [.inr (.inl (some a)), .inl row, .inl from9, .inl wide, .inl nails] => ab_so (ab_sim h a) fun P => ((0 ≤ row ∧ row ≤ 7) ∧ (0 ≤ from9 ∧ 0 ≤ wide ∧ wide ≤ 4 ∧ from9 + wide ≤ 12) ∧ (0 ≤ nails ∧ nails ≤ 3) ∧ P.2.n < 200) ∧ ∀ h' N', ab_sim h' a = some (N', addS P.2 row from9 wide nails) → ab_fo h h' (simIn P.1 a) → (∀ b, simIn N' a b → simIn P.1 a b ∨ h b = none) → K none h'
  | _ => False
theorem mo_X4_add : ab_mo Tr_X4_add := by
  intro as h K K' hk ht
  unfold Tr_X4_add at ht ⊢
  split at ht
  · exact ab_so_mo (fun _ q => ⟨q.1, fun h' N' e1 e2 e3 => hk _ _ (q.2 h' N' e1 e2 e3)⟩) ht
  · exact ht.elim
def ca_X4_add : Nat → Option ACS := ab_lk []
theorem cm_X4_add : ∀ i q, ca_X4_add i = some q → ab_moq i q := ab_lk_all (ab_all_n)
set_option maxRecDepth 100000 in
set_option maxHeartbeats 4000000 in
theorem sem_X4_add (base : Nat) : ab_Sem tbX4 lw_ts base cX4_add ca_X4_add 0 7 2 206 (fun as => ab_en as 7) Tr_X4_add := by
  intro as h K hT V hV
  unfold Tr_X4_add at hT
  split at hT
  · rename_i a row from9 wide nails
    obtain ⟨⟨N, M⟩, hP, hs, hK⟩ := ab_so_el hT
    have hA := sim_el hP
    obtain ⟨hs1, hs2, hs3, hs4⟩ := hs
    dsimp only at hs4 hK
    show V 0 [some (.inr (.inl (some a))), some (.inl row), some (.inl from9), some (.inl wide), some (.inl nails), none, none] [] h 0 0
    obtain ⟨mb, D, nd, D0, D1, D2, r0, r1, r2⟩ := id hA
    have hsl0 := mb.1
    have hn0 := mb.2.2.2.1
    dsimp only at D D0 D1 D2 r0 r1 r2 hsl0 hn0
    have fin : ∀ g, h g = none → V 43 [some (.inr (.inl (some a))), some (.inl row), some (.inl from9), some (.inl wide), some (.inl nails), some (.inr (.inl (some g))), some (.inl ((M.n : Int)))] [] (ab_up h g (.inr (.inr (3, M.n + 1, N.2.1)))) 1 (M.n + 1) := by
      intro g hg
      have hag : ¬ a = g := by rintro rfl; rw [hg] at D; cases D
      have hsg : ¬ N.1 = g := by rintro e; rw [e, hg] at D0; cases D0
      refine hV (fun p => p == 54) 80 _ _ _ _ _ _ ?_
      simp only [D, D0, ab_up_ap, hag, hsg, ab_at_i, bI_in, bI_0, bI_1, bI_t, bI_f, bI_01, ae_aload, ae_aload_n, ae_arraylength, ae_bipush, ae_getfield, ae_newarray, dX4_add_43, dX4_add_45, dX4_add_46, dX4_add_49, dX4_add_50, dX4_add_52, tbX4_g9, ab_wp0, ab_wps, ab_stp, ab_g, ab_st, ab_k2, ab_cl, ab_pop, ab_sz, ab_2, ab_ret, ab_f4, ab_tg, ab_I, ab_II, ab_A, ab_Rf, ab_VR, ab_IR, ab_VIR, ab_1, ab_LL, ab_DD, ab_ob, ab_pr, ab_qr, ab_ln, ab_so, ab_vI, ab_vA, ab_vD, ab_vL, ab_v2, ab_c, ab_fit, ab_rv, ab_tsw, ab_lsw, ab_up_eq, Fin.isValue, ab_f0, ab_f1, ab_f2, ab_f3, List.getElem?_cons_zero, List.getElem?_cons_succ, List.set_cons_zero, List.set_cons_succ, List.length_cons, List.length_nil, List.size_toArray, List.head?_cons, List.tail_cons, Option.map_some, cond_true, cond_false, true_and, and_true, false_and, and_false, not_true_eq_false, not_false_eq_true, true_imp_iff, false_imp_iff, if_true, if_false, ite_true, ite_false, ↓reduceIte, Nat.reduceAdd, Nat.reduceEqDiff, Nat.reduceLeDiff, Nat.reduceLT, Nat.reduceBEq, Nat.reduceBNe, Int.reduceAdd, Int.reduceNeg, Int.reduceSub, Int.reduceLE, Int.reduceLT, Int.reduceToNat, Int.reduceEq, Int.reduceMul, Int.cast_ofNat_Int, Nat.zero_add, Nat.add_zero, Nat.le_refl, eq_self, ne_eq, reduceCtorEq, or_true, true_or, or_false, false_or, Bool.or_true, Bool.or_false, Bool.true_or, Bool.false_or, Nat.zero_le, Int.le_refl, Int.ofNat_zero, Int.ofNat_one, Bool.false_eq_true]
      refine ⟨?_, ?_⟩
      · (repeat' refine And.intro ?_ ?_) <;> first | exact Nat.zero_le _ | decide | omega
      refine fun g2 hg2 _ => ?_
      have hg2' : ¬ g2 = g ∧ h g2 = none := by
        split at hg2
        · cases hg2
        · rename_i e; exact ⟨e, hg2⟩
      have hag2 : ¬ a = g2 := by rintro rfl; rw [hg2'.2] at D; cases D
      have hgg : ¬ g = g2 := fun e => hg2'.1 e.symm
      have fs := sim_add hA hg hg2'.2 hg2'.1 (v := slN row from9 wide nails) (by
        obtain ⟨e0, e1, e2, e3, e4, e5⟩ := slN_i row from9 wide nails
        unfold slB
        rw [e0, e1, e2, e3, e4, e5]
        omega) hs4
      have fo : ab_fo h (ab_up (ab_up (ab_up h g2 (.inr (.inl (0, 6, slN row from9 wide nails)))) g (.inr (.inr (3, M.n + 1, ab_uf N.2.1 (M.n : Int) (some g2))))) a (.inl (4, [.inr (.inl (some g)), .inr (.inl (some N.2.2.1)), .inr (.inl (some N.2.2.2.2.1)), .inl M.day, .inl M.tk]))) (simIn N a) := ((ab_fo.rf.up2 (Or.inr hg2'.2)).up2 (Or.inr hg)).up2 (Or.inl (Or.inl rfl))
      have fin2 : ∀ b, simIn (g, ab_uf N.2.1 (M.n : Int) (some g2), N.2.2) a b → simIn N a b ∨ h b = none := by
        intro b hb
        rcases hb with rfl | rfl | rfl | rfl | ⟨k, e⟩ | e | e
        · exact Or.inl (Or.inl rfl)
        · exact Or.inr hg
        · exact Or.inl (Or.inr (Or.inr (Or.inl rfl)))
        · exact Or.inl (Or.inr (Or.inr (Or.inr (Or.inl rfl))))
        · simp only [ab_uf] at e
          split at e
          · cases e; exact Or.inr hg2'.2
          · exact Or.inl (Or.inr (Or.inr (Or.inr (Or.inr (Or.inl ⟨k, e⟩)))))
        · exact Or.inl (Or.inr (Or.inr (Or.inr (Or.inr (Or.inr (Or.inl e))))))
        · exact Or.inl (Or.inr (Or.inr (Or.inr (Or.inr (Or.inr (Or.inr e))))))
      have hk2 := hK _ _ (sim_of fs) fo fin2
      have hgg2 : ¬ a = g := hag
      clear fs fo fin2 r0 r1 r2 mb hsl0 hK
      have eup : ab_up (ab_up (ab_up (ab_up h g (.inr (.inr (3, M.n + 1, N.2.1)))) g2 (.inr (.inl (0, 6, slN row from9 wide nails)))) g (.inr (.inr (3, M.n + 1, ab_uf N.2.1 (M.n : Int) (some g2))))) a (.inl (4, [.inr (.inl (some g)), .inr (.inl (some N.2.2.1)), .inr (.inl (some N.2.2.2.2.1)), .inl M.day, .inl M.tk])) = ab_up (ab_up (ab_up h g2 (.inr (.inl (0, 6, slN row from9 wide nails)))) g (.inr (.inr (3, M.n + 1, ab_uf N.2.1 (M.n : Int) (some g2))))) a (.inl (4, [.inr (.inl (some g)), .inr (.inl (some N.2.2.1)), .inr (.inl (some N.2.2.2.2.1)), .inl M.day, .inl M.tk])) := by
        funext b
        simp only [ab_up_ap]
        by_cases e1 : b = a
        · rw [if_pos e1, if_pos e1]
        · rw [if_neg e1, if_neg e1]
          by_cases e2 : b = g
          · rw [if_pos e2, if_pos e2]
          · rw [if_neg e2, if_neg e2, if_neg e2]
      rw [← eup] at hk2
      unfold slN at hk2
      refine hV (fun _ => false) 80 _ _ _ _ _ _ ?_
      simp only [D, D0, ab_up_up, ab_up_ap, hag, hag2, hgg, hg2'.1, if_true, if_false, bI_in, bI_0, bI_1, bI_t, bI_f, bI_01, ae_aastore, ae_aload, ae_aload_n, ae_dup, ae_iastore, ae_iconst, ae_iload, ae_iload_n, ae_putfield, ae_return_, dX4_add_54, dX4_add_55, dX4_add_56, dX4_add_57, dX4_add_58, dX4_add_59, dX4_add_60, dX4_add_61, dX4_add_62, dX4_add_63, dX4_add_64, dX4_add_65, dX4_add_66, dX4_add_67, dX4_add_68, dX4_add_70, dX4_add_71, dX4_add_72, dX4_add_73, dX4_add_74, dX4_add_75, dX4_add_76, dX4_add_77, dX4_add_78, dX4_add_79, dX4_add_80, dX4_add_81, dX4_add_83, dX4_add_86, tbX4_p9, ab_wp0, ab_wps, ab_stp, ab_g, ab_st, ab_k2, ab_cl, ab_pop, ab_sz, ab_2, ab_ret, ab_f4, ab_tg, ab_I, ab_II, ab_A, ab_Rf, ab_VR, ab_IR, ab_VIR, ab_1, ab_LL, ab_DD, ab_ob, ab_pr, ab_qr, ab_ln, ab_so, ab_vI, ab_vA, ab_vD, ab_vL, ab_v2, ab_c, ab_fit, ab_rv, ab_tsw, ab_lsw, ab_up_eq, Fin.isValue, ab_f0, ab_f1, ab_f2, ab_f3, List.getElem?_cons_zero, List.getElem?_cons_succ, List.set_cons_zero, List.set_cons_succ, List.length_cons, List.length_nil, List.size_toArray, List.head?_cons, List.tail_cons, Option.map_some, cond_true, cond_false, true_and, and_true, false_and, and_false, not_true_eq_false, not_false_eq_true, true_imp_iff, false_imp_iff, if_true, if_false, ite_true, ite_false, ↓reduceIte, Nat.reduceAdd, Nat.reduceEqDiff, Nat.reduceLeDiff, Nat.reduceLT, Nat.reduceBEq, Nat.reduceBNe, Int.reduceAdd, Int.reduceNeg, Int.reduceSub, Int.reduceLE, Int.reduceLT, Int.reduceToNat, Int.reduceEq, Int.reduceMul, Int.cast_ofNat_Int, Nat.zero_add, Nat.add_zero, Nat.le_refl, eq_self, ne_eq, reduceCtorEq, or_true, true_or, or_false, false_or, Bool.or_true, Bool.or_false, Bool.true_or, Bool.false_or, Nat.zero_le, Int.le_refl, Int.ofNat_zero, Int.ofNat_one, Bool.false_eq_true]
      try simp only [ab_in]
      (repeat' (first | intro _ | refine And.intro ?_ ?_)) <;> (first | exact hk2 | exact rfl | contradiction | omega | (exfalso; omega))
    have loop : ∀ (m : Nat) (x : Int) (h1 : AH) (g : Nat) (w : Option AV), x + m = M.n → 0 ≤ x → h g = none → h1 = ab_up h g (.inr (.inr (3, M.n + 1, cpQ N.2.1 x))) → V 15 [some (.inr (.inl (some a))), some (.inl row), some (.inl from9), some (.inl wide), some (.inl nails), some (.inr (.inl (some g))), some (.inl (x))] [] h1 1 (M.n + 1) := by
      intro m
      induction m with
      | zero =>
        intro x h1 g w hx h0 hg e1
        have e : x = M.n := by omega
        subst e
        have ecp : cpQ N.2.1 (M.n : Int) = N.2.1 := by
          funext i
          simp only [cpQ]
          split
          · rfl
          · exact (r0.2.1 i (by omega)).1.symm
        have i0 := fin g hg
        rw [ecp] at e1
        subst e1
        have hag : ¬ a = g := by rintro rfl; rw [hg] at D; cases D
        have hsg : ¬ N.1 = g := by rintro e; rw [e, hg] at D0; cases D0
        have hle : (M.n : Int) ≤ (M.n : Int) := Int.le_refl _
        clear r0 r1 r2 mb hsl0 hK fin
        refine hV (fun p => bif p == 15 then true else p == 43) 80 _ _ _ _ _ _ ?_
        simp only [D, D0, ab_up_ap, hag, hsg, hle, bI_in, bI_0, bI_1, bI_t, bI_f, bI_01, ae_aaload, ae_aastore, ae_aload, ae_aload_n, ae_arraylength, ae_getfield, ae_goto, ae_if_icmp, ae_iinc, ae_iload, dX4_add_15, dX4_add_17, dX4_add_18, dX4_add_21, dX4_add_22, dX4_add_25, dX4_add_27, dX4_add_29, dX4_add_30, dX4_add_33, dX4_add_35, dX4_add_36, dX4_add_37, dX4_add_40, tbX4_g9, ab_wp0, ab_wps, ab_stp, ab_g, ab_st, ab_k2, ab_cl, ab_pop, ab_sz, ab_2, ab_ret, ab_f4, ab_tg, ab_I, ab_II, ab_A, ab_Rf, ab_VR, ab_IR, ab_VIR, ab_1, ab_LL, ab_DD, ab_ob, ab_pr, ab_qr, ab_ln, ab_so, ab_vI, ab_vA, ab_vD, ab_vL, ab_v2, ab_c, ab_fit, ab_rv, ab_tsw, ab_lsw, ab_up_eq, Fin.isValue, ab_f0, ab_f1, ab_f2, ab_f3, List.getElem?_cons_zero, List.getElem?_cons_succ, List.set_cons_zero, List.set_cons_succ, List.length_cons, List.length_nil, List.size_toArray, List.head?_cons, List.tail_cons, Option.map_some, cond_true, cond_false, true_and, and_true, false_and, and_false, not_true_eq_false, not_false_eq_true, true_imp_iff, false_imp_iff, if_true, if_false, ite_true, ite_false, ↓reduceIte, Nat.reduceAdd, Nat.reduceEqDiff, Nat.reduceLeDiff, Nat.reduceLT, Nat.reduceBEq, Nat.reduceBNe, Int.reduceAdd, Int.reduceNeg, Int.reduceSub, Int.reduceLE, Int.reduceLT, Int.reduceToNat, Int.reduceEq, Int.reduceMul, Int.cast_ofNat_Int, Nat.zero_add, Nat.add_zero, Nat.le_refl, eq_self, ne_eq, reduceCtorEq, or_true, true_or, or_false, false_or, Bool.or_true, Bool.or_false, Bool.true_or, Bool.false_or, Nat.zero_le, Int.le_refl, Int.ofNat_zero, Int.ofNat_one, Bool.false_eq_true]
        try simp only [ab_in]
        (repeat' (first | intro _ | refine And.intro ?_ ?_)) <;> (first | exact i0 | contradiction | omega | (exfalso; omega))
      | succ m ih =>
        intro x h1 g w hx h0 hg e1
        subst e1
        have hlt : ¬ (M.n : Int) ≤ x := by omega
        obtain ⟨p, hp, hpc⟩ := r0.1 x h0 (by omega)
        have hag : ¬ a = g := by rintro rfl; rw [hg] at D; cases D
        have hsg : ¬ N.1 = g := by rintro e; rw [e, hg] at D0; cases D0
        have hpg : ¬ p = g := by rintro e; rw [e, hg] at hpc; cases hpc
        have i0 := ih (x + 1) (ab_up (ab_up h g (.inr (.inr (3, M.n + 1, cpQ N.2.1 x)))) g (.inr (.inr (3, M.n + 1, ab_uf (cpQ N.2.1 x) x (some p))))) g w (by omega) (by omega) hg (by rw [ab_up_up, cpQ_s h0 hp])
        clear r0 r1 r2 mb hsl0 hK fin ih
        refine hV (fun p => bif p == 15 then true else p == 43) 80 _ _ _ _ _ _ ?_
        simp only [D, D0, ab_up_ap, hag, hsg, hpg, hp, hpc, hlt, bI_in, bI_0, bI_1, bI_t, bI_f, bI_01, ae_aaload, ae_aastore, ae_aload, ae_aload_n, ae_arraylength, ae_getfield, ae_goto, ae_if_icmp, ae_iinc, ae_iload, dX4_add_15, dX4_add_17, dX4_add_18, dX4_add_21, dX4_add_22, dX4_add_25, dX4_add_27, dX4_add_29, dX4_add_30, dX4_add_33, dX4_add_35, dX4_add_36, dX4_add_37, dX4_add_40, tbX4_g9, ab_wp0, ab_wps, ab_stp, ab_g, ab_st, ab_k2, ab_cl, ab_pop, ab_sz, ab_2, ab_ret, ab_f4, ab_tg, ab_I, ab_II, ab_A, ab_Rf, ab_VR, ab_IR, ab_VIR, ab_1, ab_LL, ab_DD, ab_ob, ab_pr, ab_qr, ab_ln, ab_so, ab_vI, ab_vA, ab_vD, ab_vL, ab_v2, ab_c, ab_fit, ab_rv, ab_tsw, ab_lsw, ab_up_eq, Fin.isValue, ab_f0, ab_f1, ab_f2, ab_f3, List.getElem?_cons_zero, List.getElem?_cons_succ, List.set_cons_zero, List.set_cons_succ, List.length_cons, List.length_nil, List.size_toArray, List.head?_cons, List.tail_cons, Option.map_some, cond_true, cond_false, true_and, and_true, false_and, and_false, not_true_eq_false, not_false_eq_true, true_imp_iff, false_imp_iff, if_true, if_false, ite_true, ite_false, ↓reduceIte, Nat.reduceAdd, Nat.reduceEqDiff, Nat.reduceLeDiff, Nat.reduceLT, Nat.reduceBEq, Nat.reduceBNe, Int.reduceAdd, Int.reduceNeg, Int.reduceSub, Int.reduceLE, Int.reduceLT, Int.reduceToNat, Int.reduceEq, Int.reduceMul, Int.cast_ofNat_Int, Nat.zero_add, Nat.add_zero, Nat.le_refl, eq_self, ne_eq, reduceCtorEq, or_true, true_or, or_false, false_or, Bool.or_true, Bool.or_false, Bool.true_or, Bool.false_or, Nat.zero_le, Int.le_refl, Int.ofNat_zero, Int.ofNat_one, Bool.false_eq_true]
        try simp only [ab_in]
        (repeat' (first | intro _ | refine And.intro ?_ ?_)) <;> (first | exact i0 | exact rfl | contradiction | omega | (exfalso; omega))
    have lp : ∀ g, h g = none → V 15 [some (.inr (.inl (some a))), some (.inl row), some (.inl from9), some (.inl wide), some (.inl nails), some (.inr (.inl (some g))), some (.inl (0))] [] (ab_up h g (.inr (.inr (3, M.n + 1, fun _ => none)))) 1 (M.n + 1) := by
      intro g hg
      refine loop M.n 0 _ g none (by omega) (by omega) hg ?_
      have ecp0 : cpQ N.2.1 0 = fun _ => none := by
        funext i
        simp only [cpQ]
        rw [if_neg (by omega)]
      rw [ecp0]
    have etn : ((M.n : Int) + 1).toNat = M.n + 1 := by omega
    clear r0 r1 r2 mb hsl0 hK fin loop
    refine hV (fun p => p == 15) 80 _ _ _ _ _ _ ?_
    simp only [D, D0, etn, bI_in, bI_0, bI_1, bI_t, bI_f, bI_01, ae_aload_n, ae_anewarray, ae_arraylength, ae_astore, ae_getfield, ae_iadd, ae_iconst, ae_istore, dX4_add_0, dX4_add_1, dX4_add_4, dX4_add_5, dX4_add_6, dX4_add_7, dX4_add_10, dX4_add_12, dX4_add_13, tbX4_a7, tbX4_g9, ab_wp0, ab_wps, ab_stp, ab_g, ab_st, ab_k2, ab_cl, ab_pop, ab_sz, ab_2, ab_ret, ab_f4, ab_tg, ab_I, ab_II, ab_A, ab_Rf, ab_VR, ab_IR, ab_VIR, ab_1, ab_LL, ab_DD, ab_ob, ab_pr, ab_qr, ab_ln, ab_so, ab_vI, ab_vA, ab_vD, ab_vL, ab_v2, ab_c, ab_fit, ab_rv, ab_tsw, ab_lsw, ab_up_eq, Fin.isValue, ab_f0, ab_f1, ab_f2, ab_f3, List.getElem?_cons_zero, List.getElem?_cons_succ, List.set_cons_zero, List.set_cons_succ, List.length_cons, List.length_nil, List.size_toArray, List.head?_cons, List.tail_cons, Option.map_some, cond_true, cond_false, true_and, and_true, false_and, and_false, not_true_eq_false, not_false_eq_true, true_imp_iff, false_imp_iff, if_true, if_false, ite_true, ite_false, ↓reduceIte, Nat.reduceAdd, Nat.reduceEqDiff, Nat.reduceLeDiff, Nat.reduceLT, Nat.reduceBEq, Nat.reduceBNe, Int.reduceAdd, Int.reduceNeg, Int.reduceSub, Int.reduceLE, Int.reduceLT, Int.reduceToNat, Int.reduceEq, Int.reduceMul, Int.cast_ofNat_Int, Nat.zero_add, Nat.add_zero, Nat.le_refl, eq_self, ne_eq, reduceCtorEq, or_true, true_or, or_false, false_or, Bool.or_true, Bool.or_false, Bool.true_or, Bool.false_or, Nat.zero_le, Int.le_refl, Int.ofNat_zero, Int.ofNat_one, Bool.false_eq_true]
    try simp only [ab_in]
    (repeat' (first | intro _ | refine And.intro ?_ ?_)) <;> (first | exact lp _ (by assumption) | exact (by decide) | contradiction | omega | (exfalso; omega))
  · exact hT.elim
set_option maxRecDepth 100000 in
theorem con_X4_add (l : Launch) (D : va_G) (ty : Nat → ClassId) (base : Nat) : ab_Con l D vwCl ty lw_ts base lw_wd yX4_add cX4_add 7 none 0 0 2 206 Tr_X4_add :=
  ab_con_of (own := RX4) (rt := 0) (tb := tbX4) (ini := false) (ca := ca_X4_add) (by decide +kernel) rfl (fun h => by cases h) rfl lw_wd_ok wtbX4 lw_ar cm_X4_add
    (fun p e R s m args below meth c K hcx => by
      obtain ⟨hx, hb, hml, hown, hF, rfl⟩ := hcx
      exact ab_lk_all (ab_all_n))
    (by intro as h K ht; unfold Tr_X4_add at ht; split at ht <;> first | exact ht.elim | exact Nat.le_of_ble_eq_true rfl) (sem_X4_add base)
theorem grid_ap (h : AH) (a n m b : Nat) : ab_grid h a n m b = if b = a then some (.inr (.inr (3, n, fun j => if 0 ≤ j ∧ j < (n : Int) then some (a + 1 + j.toNat) else none))) else if a < b ∧ b ≤ a + n then some (.inr (.inl (0, m, fun _ => 0))) else h b := rfl
def gdF (a n : Nat) : Int → Option Nat := fun j => if 0 ≤ j ∧ j < (n : Int) then some (a + 1 + j.toNat) else none
theorem grid_rows {h' : AH} {a n m : Nat} (hk : ∀ b, a < b → b ≤ a + n → h' b = some (.inr (.inl (0, m, fun _ => 0)))) : rowsAt h' m n (gdF a n) (fun _ _ => 0) := by
  refine ⟨fun k h0 h1 => ⟨a + 1 + k.toNat, ?_, hk _ (by omega) (by omega)⟩, fun k hk2 => ⟨?_, rfl⟩, fun i j q hi hj => ?_⟩
  · unfold gdF; rw [if_pos ⟨h0, h1⟩]
  · unfold gdF; rw [if_neg (by omega)]
  · unfold gdF at hi hj
    split at hi
    · split at hj
      · have e1 := Option.some.inj hi
        have e2 := Option.some.inj hj
        omega
      · cases hj
    · cases hi
noncomputable def Tr_X4_init : ATr := fun as h K => match as with
  | [.inr (.inl (some a))] => h a = some (.inl (4, [.inr (.inl none), .inr (.inl none), .inr (.inl none), .inl 0, .inl 0]) : AC) ∧ ∀ h' N, ab_sim h' a = some (N, sim0) → ab_fo h h' (fun b => b = a) → (∀ b, simIn N a b → b = a ∨ h b = none) → K none h'
  | _ => False
theorem mo_X4_init : ab_mo Tr_X4_init := by
  intro as h K K' hk ht
  unfold Tr_X4_init at ht ⊢
  split at ht
  · exact ⟨ht.1, fun h' N e1 e2 e3 => hk _ _ (ht.2 h' N e1 e2 e3)⟩
  · exact ht.elim
def ca_X4_init : Nat → Option ACS := ab_lk [(1, (1, 0, 1, 0, 0, ab_Oi))]
theorem ca_X4_init_1 : ca_X4_init 1 = some (1, 0, 1, 0, 0, ab_Oi) := rfl
theorem cm_X4_init : ∀ i q, ca_X4_init i = some q → ab_moq i q := ab_lk_all (ab_all_c ab_Oi_mo (ab_all_n))
set_option maxRecDepth 100000 in
set_option maxHeartbeats 4000000 in
theorem sem_X4_init (base : Nat) : ab_Sem tbX4i lw_ts base cX4_init ca_X4_init 0 1 22 143 (fun as => ab_en as 1) Tr_X4_init := by
  intro as h K hT V hV
  unfold Tr_X4_init at hT
  split at hT
  · rename_i a
    have hc := hT.1
    show V 0 [some (.inr (.inl (some a)))] [] h 0 0
    refine hV (fun p => p == 9) 80 _ _ _ _ _ _ ?_
    simp only [hc, ab_Oi, bI_in, bI_0, bI_1, bI_t, bI_f, bI_01, ae_aload_n, ae_anewarray, ae_iconst, ae_invokespecial, dX4_init_0, dX4_init_1, dX4_init_4, dX4_init_5, dX4_init_6, tbX4i_a7, ca_X4_init_1, ab_wp0, ab_wps, ab_stp, ab_g, ab_st, ab_k2, ab_cl, ab_pop, ab_sz, ab_2, ab_ret, ab_f4, ab_tg, ab_I, ab_II, ab_A, ab_Rf, ab_VR, ab_IR, ab_VIR, ab_1, ab_LL, ab_DD, ab_ob, ab_pr, ab_qr, ab_ln, ab_so, ab_vI, ab_vA, ab_vD, ab_vL, ab_v2, ab_c, ab_fit, ab_rv, ab_tsw, ab_lsw, ab_up_eq, Fin.isValue, ab_f0, ab_f1, ab_f2, ab_f3, List.getElem?_cons_zero, List.getElem?_cons_succ, List.set_cons_zero, List.set_cons_succ, List.length_cons, List.length_nil, List.size_toArray, List.head?_cons, List.tail_cons, Option.map_some, cond_true, cond_false, true_and, and_true, false_and, and_false, not_true_eq_false, not_false_eq_true, true_imp_iff, false_imp_iff, if_true, if_false, ite_true, ite_false, ↓reduceIte, Nat.reduceAdd, Nat.reduceEqDiff, Nat.reduceLeDiff, Nat.reduceLT, Nat.reduceBEq, Nat.reduceBNe, Int.reduceAdd, Int.reduceNeg, Int.reduceSub, Int.reduceLE, Int.reduceLT, Int.reduceToNat, Int.reduceEq, Int.reduceMul, Int.cast_ofNat_Int, Nat.zero_add, Nat.add_zero, Nat.le_refl, eq_self, ne_eq, reduceCtorEq, or_true, true_or, or_false, false_or, Bool.or_true, Bool.or_false, Bool.true_or, Bool.false_or, Nat.zero_le, Int.le_refl, Int.ofNat_zero, Int.ofNat_one, Bool.false_eq_true]
    refine ⟨?_, ?_⟩
    · (repeat' refine And.intro ?_ ?_) <;> first | decide | exact Nat.zero_le _
    refine fun g0 hg0 _ => ?_
    have hag0 : ¬ a = g0 := by rintro rfl; rw [hg0] at hc; cases hc
    refine hV (fun p => p == 21) 80 _ _ _ _ _ _ ?_
    simp only [hc, ab_up_ap, hag0, if_true, if_false, bI_in, bI_0, bI_1, bI_t, bI_f, bI_01, ae_aload_n, ae_bipush, ae_multianewarray, ae_putfield, dX4_init_9, dX4_init_12, dX4_init_13, dX4_init_15, dX4_init_17, tbX4i_a15, tbX4i_p9, ca_X4_init_1, ab_wp0, ab_wps, ab_stp, ab_g, ab_st, ab_k2, ab_cl, ab_pop, ab_sz, ab_2, ab_ret, ab_f4, ab_tg, ab_I, ab_II, ab_A, ab_Rf, ab_VR, ab_IR, ab_VIR, ab_1, ab_LL, ab_DD, ab_ob, ab_pr, ab_qr, ab_ln, ab_so, ab_vI, ab_vA, ab_vD, ab_vL, ab_v2, ab_c, ab_fit, ab_rv, ab_tsw, ab_lsw, ab_up_eq, Fin.isValue, ab_f0, ab_f1, ab_f2, ab_f3, List.getElem?_cons_zero, List.getElem?_cons_succ, List.set_cons_zero, List.set_cons_succ, List.length_cons, List.length_nil, List.size_toArray, List.head?_cons, List.tail_cons, Option.map_some, cond_true, cond_false, true_and, and_true, false_and, and_false, not_true_eq_false, not_false_eq_true, true_imp_iff, false_imp_iff, if_true, if_false, ite_true, ite_false, ↓reduceIte, Nat.reduceAdd, Nat.reduceEqDiff, Nat.reduceLeDiff, Nat.reduceLT, Nat.reduceBEq, Nat.reduceBNe, Int.reduceAdd, Int.reduceNeg, Int.reduceSub, Int.reduceLE, Int.reduceLT, Int.reduceToNat, Int.reduceEq, Int.reduceMul, Int.cast_ofNat_Int, Nat.zero_add, Nat.add_zero, Nat.le_refl, eq_self, ne_eq, reduceCtorEq, or_true, true_or, or_false, false_or, Bool.or_true, Bool.or_false, Bool.true_or, Bool.false_or, Nat.zero_le, Int.le_refl, Int.ofNat_zero, Int.ofNat_one, Bool.false_eq_true]
    try simp only [ab_in]
    refine ⟨?_, ?_⟩
    · (repeat' refine And.intro ?_ ?_) <;> first | decide | exact Nat.zero_le _ | omega
    intro g1 hg1 _
    have n1 : ∀ b, g1 ≤ b → h b = none ∧ ¬ b = a ∧ ¬ b = g0 := by
      intro b hb
      have e := hg1 b hb
      split at e
      · cases e
      · rename_i e1
        split at e
        · cases e
        · rename_i e2; exact ⟨e, e1, e2⟩
    have la : ¬ g1 ≤ a := fun q => (n1 a q).2.1 rfl
    have l0 : ¬ g1 ≤ g0 := fun q => (n1 g0 q).2.2 rfl
    generalize hh1 : ab_grid (ab_up (ab_up h g0 (.inr (.inr (3, 0, fun _ => none)))) a (.inl (4, [.inr (.inl (some g0)), .inr (.inl none), .inr (.inl none), .inl 0, .inl 0]))) g1 12 8 = h1
    have F1 : ∀ b, h1 b = if b = g1 then some (.inr (.inr (3, 12, gdF g1 12))) else if g1 < b ∧ b ≤ g1 + 12 then some (.inr (.inl (0, 8, fun _ => 0))) else if b = a then some (.inl (4, [.inr (.inl (some g0)), .inr (.inl none), .inr (.inl none), .inl 0, .inl 0])) else if b = g0 then some (.inr (.inr (3, 0, fun _ => none))) else h b := fun b => by
      rw [← hh1, grid_ap, ab_up_ap, ab_up_ap]
      rfl
    have c1 : h1 a = some (.inl (4, [.inr (.inl (some g0)), .inr (.inl none), .inr (.inl none), .inl 0, .inl 0])) := by
      rw [F1, if_neg (fun e => by omega), if_neg (by omega), if_pos rfl]
    refine hV (fun p => p == 32) 80 _ _ _ _ _ _ ?_
    simp only [c1, bI_in, bI_0, bI_1, bI_t, bI_f, bI_01, ae_aload_n, ae_bipush, ae_iconst, ae_multianewarray, ae_putfield, dX4_init_21, dX4_init_24, dX4_init_25, dX4_init_27, dX4_init_28, tbX4i_a15, tbX4i_p16, ca_X4_init_1, ab_wp0, ab_wps, ab_stp, ab_g, ab_st, ab_k2, ab_cl, ab_pop, ab_sz, ab_2, ab_ret, ab_f4, ab_tg, ab_I, ab_II, ab_A, ab_Rf, ab_VR, ab_IR, ab_VIR, ab_1, ab_LL, ab_DD, ab_ob, ab_pr, ab_qr, ab_ln, ab_so, ab_vI, ab_vA, ab_vD, ab_vL, ab_v2, ab_c, ab_fit, ab_rv, ab_tsw, ab_lsw, ab_up_eq, Fin.isValue, ab_f0, ab_f1, ab_f2, ab_f3, List.getElem?_cons_zero, List.getElem?_cons_succ, List.set_cons_zero, List.set_cons_succ, List.length_cons, List.length_nil, List.size_toArray, List.head?_cons, List.tail_cons, Option.map_some, cond_true, cond_false, true_and, and_true, false_and, and_false, not_true_eq_false, not_false_eq_true, true_imp_iff, false_imp_iff, if_true, if_false, ite_true, ite_false, ↓reduceIte, Nat.reduceAdd, Nat.reduceEqDiff, Nat.reduceLeDiff, Nat.reduceLT, Nat.reduceBEq, Nat.reduceBNe, Int.reduceAdd, Int.reduceNeg, Int.reduceSub, Int.reduceLE, Int.reduceLT, Int.reduceToNat, Int.reduceEq, Int.reduceMul, Int.cast_ofNat_Int, Nat.zero_add, Nat.add_zero, Nat.le_refl, eq_self, ne_eq, reduceCtorEq, or_true, true_or, or_false, false_or, Bool.or_true, Bool.or_false, Bool.true_or, Bool.false_or, Nat.zero_le, Int.le_refl, Int.ofNat_zero, Int.ofNat_one, Bool.false_eq_true]
    try simp only [ab_in]
    refine ⟨by decide, ?_⟩
    intro g2 hg2 _
    have n2 : ∀ b, g2 ≤ b → h1 b = none ∧ ¬ b = a := by
      intro b hb
      have e := hg2 b hb
      rw [ab_up_ap] at e
      split at e
      · cases e
      · rename_i e1; exact ⟨e, e1⟩
    have lg : g1 + 12 < g2 := by
      rcases Nat.lt_or_ge (g1 + 12) g2 with q | q
      · exact q
      · have e := (n2 _ q).1
        rw [F1, if_neg (by omega), if_pos (by omega)] at e
        cases e
    have la2 : ¬ g2 ≤ a := fun q => (n2 a q).2 rfl
    generalize hh2 : ab_grid (ab_up h1 a (.inl (4, [.inr (.inl (some g0)), .inr (.inl (some g1)), .inr (.inl none), .inl 0, .inl 0]))) g2 7 4 = h2
    have F2 : ∀ b, h2 b = if b = g2 then some (.inr (.inr (3, 7, gdF g2 7))) else if g2 < b ∧ b ≤ g2 + 7 then some (.inr (.inl (0, 4, fun _ => 0))) else if b = a then some (.inl (4, [.inr (.inl (some g0)), .inr (.inl (some g1)), .inr (.inl none), .inl 0, .inl 0])) else h1 b := fun b => by
      rw [← hh2, grid_ap, ab_up_ap]
      rfl
    have c2 : h2 a = some (.inl (4, [.inr (.inl (some g0)), .inr (.inl (some g1)), .inr (.inl none), .inl 0, .inl 0])) := by
      rw [F2, if_neg (fun e => by omega), if_neg (by omega), if_pos rfl]
    have F3 : ∀ b, ¬ b = a → ab_up h2 a (.inl (4, [.inr (.inl (some g0)), .inr (.inl (some g1)), .inr (.inl (some g2)), .inl 0, .inl 0])) b = if b = g2 then some (.inr (.inr (3, 7, gdF g2 7))) else if g2 < b ∧ b ≤ g2 + 7 then some (.inr (.inl (0, 4, fun _ => 0))) else if b = g1 then some (.inr (.inr (3, 12, gdF g1 12))) else if g1 < b ∧ b ≤ g1 + 12 then some (.inr (.inl (0, 8, fun _ => 0))) else if b = g0 then some (.inr (.inr (3, 0, fun _ => none))) else h b := fun b hb => by
      rw [ab_up_ap, if_neg hb, F2, if_neg hb, F1, if_neg hb]
    have lg0 : g0 < g1 := by omega
    have fs : simAt (ab_up h2 a (.inl (4, [.inr (.inl (some g0)), .inr (.inl (some g1)), .inr (.inl (some g2)), .inl 0, .inl 0]))) a ((g0, (fun _ => none), g1, gdF g1 12, g2, gdF g2 7), sim0) := by
      refine ⟨MB_0, ab_up_eq _ _ _, ?_, ?_, ?_, ?_, ⟨fun k h0 hk => ?_, fun k _ => ⟨rfl, rfl⟩, fun i j q hi => by cases hi⟩, grid_rows (fun b b0 b1 => ?_), grid_rows (fun b b0 b1 => ?_)⟩
      · simp only [List.nodup_cons, List.mem_cons, List.not_mem_nil, or_false, not_or, not_false_eq_true, List.nodup_nil, and_true]
        omega
      · rw [F3 _ (fun e => hag0 e.symm), if_neg (by omega), if_neg (by omega), if_neg (by omega), if_neg (by omega), if_pos rfl]
        rfl
      · dsimp only
        rw [F3 _ (fun e => by omega), if_neg (by omega), if_neg (by omega), if_pos rfl]
      · dsimp only
        rw [F3 _ (fun e => by omega), if_pos rfl]
      · have : k < 0 := hk
        omega
      · rw [F3 _ (fun e => by omega), if_neg (by omega), if_neg (by omega), if_neg (by omega), if_pos (by omega)]
      · rw [F3 _ (fun e => by omega), if_neg (by omega), if_pos (by omega)]
    have hnn : ∀ b, ¬ b = a → (g1 ≤ b ∨ b = g0) → h b = none := fun b hb q => by
      rcases q with q | q
      · exact (n1 b q).1
      · subst q; exact hg0
    have fo : ab_fo h (ab_up h2 a (.inl (4, [.inr (.inl (some g0)), .inr (.inl (some g1)), .inr (.inl (some g2)), .inl 0, .inl 0]))) (fun b => b = a) := by
      intro b hb hn
      have hb' : ¬ b = a := hb
      rw [F3 b hb', if_neg (fun e => hn (hnn b hb' (by omega))), if_neg (fun e => hn (hnn b hb' (by omega))), if_neg (fun e => hn (hnn b hb' (by omega))), if_neg (fun e => hn (hnn b hb' (by omega))), if_neg (fun e => hn (hnn b hb' (Or.inr e)))]
    have fi : ∀ b, simIn (g0, (fun _ => none), g1, gdF g1 12, g2, gdF g2 7) a b → b = a ∨ h b = none := by
      intro b hb
      by_cases e : b = a
      · exact Or.inl e
      · refine Or.inr (hnn b e ?_)
        rcases hb with q | q | q | q | ⟨k, q⟩ | ⟨k, q⟩ | ⟨k, q⟩
        · exact absurd q e
        · exact Or.inr q
        · dsimp only at q; omega
        · dsimp only at q; omega
        · cases q
        · simp only [gdF] at q
          split at q
          · have := Option.some.inj q; omega
          · cases q
        · simp only [gdF] at q
          split at q
          · have := Option.some.inj q; omega
          · cases q
    have hk2 := hT.2 _ _ (sim_of fs) fo fi
    clear fs fo fi F1 F2 F3
    refine hV (fun _ => false) 80 _ _ _ _ _ _ ?_
    simp only [c2, bI_in, bI_0, bI_1, bI_t, bI_f, bI_01, ae_putfield, ae_return_, dX4_init_32, dX4_init_35, tbX4i_p19, ca_X4_init_1, ab_wp0, ab_wps, ab_stp, ab_g, ab_st, ab_k2, ab_cl, ab_pop, ab_sz, ab_2, ab_ret, ab_f4, ab_tg, ab_I, ab_II, ab_A, ab_Rf, ab_VR, ab_IR, ab_VIR, ab_1, ab_LL, ab_DD, ab_ob, ab_pr, ab_qr, ab_ln, ab_so, ab_vI, ab_vA, ab_vD, ab_vL, ab_v2, ab_c, ab_fit, ab_rv, ab_tsw, ab_lsw, ab_up_eq, Fin.isValue, ab_f0, ab_f1, ab_f2, ab_f3, List.getElem?_cons_zero, List.getElem?_cons_succ, List.set_cons_zero, List.set_cons_succ, List.length_cons, List.length_nil, List.size_toArray, List.head?_cons, List.tail_cons, Option.map_some, cond_true, cond_false, true_and, and_true, false_and, and_false, not_true_eq_false, not_false_eq_true, true_imp_iff, false_imp_iff, if_true, if_false, ite_true, ite_false, ↓reduceIte, Nat.reduceAdd, Nat.reduceEqDiff, Nat.reduceLeDiff, Nat.reduceLT, Nat.reduceBEq, Nat.reduceBNe, Int.reduceAdd, Int.reduceNeg, Int.reduceSub, Int.reduceLE, Int.reduceLT, Int.reduceToNat, Int.reduceEq, Int.reduceMul, Int.cast_ofNat_Int, Nat.zero_add, Nat.add_zero, Nat.le_refl, eq_self, ne_eq, reduceCtorEq, or_true, true_or, or_false, false_or, Bool.or_true, Bool.or_false, Bool.true_or, Bool.false_or, Nat.zero_le, Int.le_refl, Int.ofNat_zero, Int.ofNat_one, Bool.false_eq_true]
    try simp only [ab_in]
    (repeat' (first | intro _ | refine And.intro ?_ ?_)) <;> (first | exact hk2 | exact rfl | contradiction | omega | (exfalso; omega))
  · exact hT.elim
set_option maxRecDepth 100000 in
theorem con_X4_init (l : Launch) (D : va_G) (ty : Nat → ClassId) (base : Nat) : ab_Con l D vwCl ty lw_ts base lw_wd yX4_init cX4_init 1 none 1 20 22 143 Tr_X4_init :=
  ab_con_of (own := RX4) (rt := 0) (tb := tbX4i) (ini := true) (ca := ca_X4_init) (by decide +kernel) rfl (fun _ => rfl) rfl lw_wd_ok wtbX4i lw_ar cm_X4_init
    (fun p e R s m args below meth c K hcx => by
      obtain ⟨hx, hb, hml, hown, hF, rfl⟩ := hcx
      exact ab_lk_all (ab_all_c (ab_tc_O hx hb hml hown lw_wd_ok hF (lw_wi (by decide +kernel) (by decide +kernel)) (lw_wi (by decide +kernel) (by decide +kernel)) (lw_wi (by decide +kernel) (by decide +kernel)) (by decide) (by decide)) (ab_all_n)))
    (by intro as h K ht; unfold Tr_X4_init at ht; split at ht <;> first | exact ht.elim | exact Nat.le_of_ble_eq_true rfl) (sem_X4_init base)
