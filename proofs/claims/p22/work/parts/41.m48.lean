/-! ===== the law's own roof beside the class's: the same ===== -/
def toldS (M : SM) (k what : Int) : Int := if what = 0 then M.sl k 0 else if what = 1 then M.sl k 1 else if what = 2 then M.sl k 2 else if what = 3 then M.sl k 3 else if what = 4 then M.sl k 4 else if what = 5 then M.sl k 5 else if what = 6 then (if M.sl k 5 = 1 then holdS M (M.sl k) else 0) else (if M.sl k 5 = 1 then uponS M (M.sl k) else 0)
def SameF (S : RS) (M : SM) : Prop := (M.n : Int) = S.laid ∧ (∀ k what, 0 ≤ k → k < (M.n : Int) → 0 ≤ what → what ≤ 7 → tellF S k what = toldS M k what) ∧
  (∀ x y, 0 ≤ x → x ≤ 11 → 0 ≤ y → y ≤ 7 → numberAtF S x y = atS M x y ∧ coveredF S x y = covS M x y ∧ rotAtF S x y = M.rt x y) ∧
  (S.day = M.day ∧ S.there = onS M 0 ∧ crkThF S = onS M 1 ∧ covPlF S = covAllS M ∧ S.blown = M.tk ∧ allRotF S = rotS M)
theorem sr_fr {h h' : AH} {a : Nat} {A : SA} {v : SV} (h1 : srAt h a (A, v)) (h2 : ∀ b ∈ a :: srL A, h' b = h b) : srAt h' a (A, v) := by
  obtain ⟨⟨r, ns⟩, ⟨t, ms⟩, ⟨c, n⟩, b, q0, q1, q2, q3⟩ := A
  obtain ⟨S0, O, f, T⟩ := v
  obtain ⟨d, d0, d1, d2, d3, d4⟩ := h1
  dsimp only at d d0 d1 d2 d3 d4
  refine ⟨(h2 _ (by simp)).trans d, roof_fr d0 (fun x hx => h2 x ?_), roof_fr d1 (fun x hx => h2 x ?_), cov_fr d2 (h2 _ (by simp [srL])) (h2 _ (by simp [srL])), tab_fr d3 (fun x hx => h2 x ?_), d4⟩
  · rcases hx with rfl | hx
    · simp [srL]
    · simp only [srL, List.mem_cons, List.mem_append]; exact Or.inr (Or.inl (Or.inr hx))
  · rcases hx with rfl | hx
    · simp [srL]
    · simp only [srL, List.mem_cons, List.mem_append]; exact Or.inr (Or.inr (Or.inl (Or.inr hx)))
  · simp only [List.mem_cons, List.not_mem_nil, or_false] at hx
    simp only [srL, List.mem_cons, List.mem_append, List.not_mem_nil, or_false]
    exact Or.inr (Or.inr (Or.inr (Or.inr (Or.inr hx))))
theorem sr_nn {h : AH} {a : Nat} {A : SA} {v : SV} (h1 : srAt h a (A, v)) : ∀ b ∈ a :: srL A, h b ≠ none := by
  obtain ⟨⟨r, ns⟩, ⟨t, ms⟩, ⟨c, n⟩, b, q0, q1, q2, q3⟩ := A
  obtain ⟨S0, O, f, T⟩ := v
  obtain ⟨d, d0, d1, d2, d3, d4⟩ := h1
  dsimp only at d d0 d1 d2 d3 d4
  intro x hx
  simp only [srL, List.mem_cons, List.mem_append, List.not_mem_nil, or_false] at hx
  rcases hx with rfl | (hx | hx) | (hx | hx) | hx
  · rw [d]; exact fun q => by cases q
  · exact roof_nn d0 x (List.mem_cons.mpr (Or.inl hx))
  · exact roof_nn d0 x (List.mem_cons.mpr (Or.inr hx))
  · exact roof_nn d1 x (List.mem_cons.mpr (Or.inl hx))
  · exact roof_nn d1 x (List.mem_cons.mpr (Or.inr hx))
  · have h9 := tab_nn d3 x
    have h8 := cov_nn d2 x
    simp only [List.mem_cons, List.not_mem_nil, or_false] at h9 h8
    rcases hx with e | e | e
    · exact h8 (Or.inl e)
    · exact h8 (Or.inr e)
    · exact h9 e
/-- what stays where only new cells come -/
theorem sr_fo {h h' : AH} {a : Nat} {A : SA} {v : SV} (h1 : srAt h a (A, v)) (h2 : ab_fo h h' (fun _ => False)) : srAt h' a (A, v) := sr_fr h1 (fun b hb => h2 b id (sr_nn h1 b hb))
theorem sim_fo {h h' : AH} {a : Nat} {P : SN × SM} (h1 : simAt h a P) (h2 : ab_fo h h' (fun _ => False)) : simAt h' a P := sim_keep h1 (fun b hb => h2 b id (sim_nn h1 hb))
theorem slB_r {f : Int → Int} (h : slB f) : (0 ≤ f 0 ∧ f 0 ≤ 7) ∧ (0 ≤ f 1 ∧ f 1 ≤ 12) ∧ (0 ≤ f 2 ∧ f 2 ≤ 4) ∧ (0 ≤ f 3 ∧ f 3 ≤ 3) ∧ (0 ≤ f 4 ∧ f 4 ≤ 1) ∧ (0 ≤ f 5 ∧ f 5 ≤ 1) := by
  obtain ⟨a1, a2, a3, a4, a5⟩ := h
  omega
theorem uponS_r {M : SM} (f : Int → Int) (mb : MB M) : 0 ≤ uponS M f ∧ uponS M f ≤ 200 := by
  have := sumR_rb (g := fun k => meetsF (M.sl k) (f 0 + 1) (f 1) (f 2)) M.n 0
  have hn : M.n ≤ 200 := mb.2.2.2.1
  unfold uponS
  omega
theorem toldS_r {M : SM} {k what : Int} (mb : MB M) : -1000 ≤ toldS M k what ∧ toldS M k what ≤ 1000 := by
  have h1 := slB_r (mb.1 k)
  have h2 := holdS_r mb (mb.1 k)
  have h3 := uponS_r (M.sl k) mb
  unfold toldS
  repeat' split
  all_goals omega
theorem dcmp_shD0 : ∀ n : Fin 97, (Op.cmpValue (FP.dcmp (FP.ddiv (FP.i2d (Int32.ofInt (n.val : Int))) 4636455816377925632) (FP.ddiv (FP.i2d (Int32.ofInt (n.val : Int))) 4636455816377925632)) ClassFile.CmpOp.l).toInt = 0 := by decide +kernel
theorem dcmp_shD {c : Int} (h0 : 0 ≤ c) (h1 : c ≤ 96) : (Op.cmpValue (FP.dcmp (FP.ddiv (FP.i2d (Int32.ofInt c)) 4636455816377925632) (FP.ddiv (FP.i2d (Int32.ofInt c)) 4636455816377925632)) ClassFile.CmpOp.l).toInt = 0 := by
  have := dcmp_shD0 ⟨c.toNat, by omega⟩
  rw [show ((c.toNat : Nat) : Int) = c by omega] at this
  exact this
/-- eight numbers in a row -/
def rw8 (M : SM) (k : Int) : Int → Int := ab_uf (ab_uf (ab_uf (ab_uf (ab_uf (ab_uf (ab_uf (ab_uf (fun _ => 0) 0 (M.sl k 0)) 1 (M.sl k 1)) 2 (M.sl k 2)) 3 (M.sl k 3)) 4 (M.sl k 4)) 5 (M.sl k 5)) 6 (if M.sl k 5 = 1 then holdS M (M.sl k) else 0)) 7 (if M.sl k 5 = 1 then uponS M (M.sl k) else 0)
theorem rw8_at {M : SM} {k what : Int} (h0 : 0 ≤ what) (h7 : what ≤ 7) : rw8 M k what = toldS M k what := by
  rcases (show what = 0 ∨ what = 1 ∨ what = 2 ∨ what = 3 ∨ what = 4 ∨ what = 5 ∨ what = 6 ∨ what = 7 by omega) with rfl | rfl | rfl | rfl | rfl | rfl | rfl | rfl <;> simp [rw8, toldS, ab_uf]
def rw7 (M : SM) : Int → Int := ab_uf (ab_uf (ab_uf (ab_uf (ab_uf (ab_uf (ab_uf (fun _ => 0) 0 M.day) 1 (M.n : Int)) 2 (onS M 0)) 3 (onS M 1)) 4 (covAllS M)) 5 M.tk) 6 (rotS M)
def cntS (M : SM) (what : Int) : Int := if what = 0 then M.day else if what = 1 then (M.n : Int) else if what = 2 then onS M 0 else if what = 3 then onS M 1 else if what = 4 then covAllS M else if what = 5 then M.tk else rotS M
theorem rw7_at {M : SM} {what : Int} (h0 : 0 ≤ what) (h7 : what ≤ 6) : rw7 M what = cntS M what := by
  rcases (show what = 0 ∨ what = 1 ∨ what = 2 ∨ what = 3 ∨ what = 4 ∨ what = 5 ∨ what = 6 by omega) with rfl | rfl | rfl | rfl | rfl | rfl | rfl <;> simp [rw7, cntS, ab_uf]
theorem onS_r {M : SM} (b : Int) (mb : MB M) : 0 ≤ onS M b ∧ onS M b ≤ 200 := by
  have := sumR_rb (g := fun k => decide (M.sl k 5 = 1) && (decide (b = 0) || decide (M.sl k 4 = 1))) M.n 0
  have hn : M.n ≤ 200 := mb.2.2.2.1
  unfold onS
  omega
theorem covAllS_r (M : SM) : 0 ≤ covAllS M ∧ covAllS M ≤ 96 := by
  have := sumR_r (f := fun x => sumR (fun y => bI (covS M x y)) 8 0) (lo := 0) (hi := 8) (fun y => sumR_rb 8 0) 12 0
  unfold covAllS
  omega
theorem rotS_r {M : SM} (mb : MB M) : 0 ≤ rotS M ∧ rotS M ≤ 864 := by
  have := sumR_r (f := fun x => sumR (fun y => M.rt x y) 8 0) (lo := 0) (hi := 72) (fun x => by have := sumR_r (f := fun y => M.rt x y) (lo := 0) (hi := 9) (fun y => mb.2.1 x y) 8 0; omega) 12 0
  unfold rotS
  omega
theorem cntS_r {M : SM} {what : Int} (mb : MB M) : -1000 ≤ cntS M what ∧ cntS M what ≤ 100000 := by
  have h1 := onS_r 0 mb
  have h2 := onS_r 1 mb
  have h3 := covAllS_r M
  have h4 := rotS_r mb
  have h5 := mb.2.2.2.2
  have h6 := mb.2.2.2.1
  unfold cntS
  repeat' split
  all_goals omega
noncomputable def Tr_X4_isSame : ATr := fun as h K => match as with
  | [.inr (.inl (some a)), .inr (.inl (some r))] => ab_so (ab_sim h a) fun P => ab_so (ab_sr h r) fun Q => SameF Q.2.1 P.2 ∧ ∀ h', ab_fo h h' (fun _ => False) → K (some (.inl 1)) h'
  | _ => False
theorem mo_X4_isSame : ab_mo Tr_X4_isSame := by
  intro as h K K' hk ht
  unfold Tr_X4_isSame at ht ⊢
  split at ht
  · exact ab_so_mo (fun _ q => ab_so_mo (fun _ q2 => ⟨q2.1, fun h' e1 => hk _ _ (q2.2 h' e1)⟩) q) ht
  · exact ht.elim
def ca_X4_isSame : Nat → Option ACS := ab_lk [(43, (0, 4, 2, 0, 0, Tr_X4_hold)), (35, (0, 4, 2, 0, 0, Tr_X4_upon)), (61, (0, 3, 3, 0, 0, Tr_X3_slate)), (67, (0, 3, 4, 0, 0, Tr_X3_place)), (70, (0, 4, 3, 0, 0, Tr_X4_at)), (49, (0, 4, 3, 0, 0, Tr_X4_covered)), (73, (0, 4, 2, 0, 0, Tr_X4_on)), (77, (0, 4, 1, 0, 0, Tr_X4_covered_)), (80, (0, 4, 1, 0, 0, Tr_X4_rot)), (82, (0, 3, 2, 0, 0, Tr_X3_count)), (86, (0, 3, 1, 0, 0, Tr_X3_share))]
theorem ca_X4_isSame_43 : ca_X4_isSame 43 = some (0, 4, 2, 0, 0, Tr_X4_hold) := rfl
theorem ca_X4_isSame_35 : ca_X4_isSame 35 = some (0, 4, 2, 0, 0, Tr_X4_upon) := rfl
theorem ca_X4_isSame_61 : ca_X4_isSame 61 = some (0, 3, 3, 0, 0, Tr_X3_slate) := rfl
theorem ca_X4_isSame_67 : ca_X4_isSame 67 = some (0, 3, 4, 0, 0, Tr_X3_place) := rfl
theorem ca_X4_isSame_70 : ca_X4_isSame 70 = some (0, 4, 3, 0, 0, Tr_X4_at) := rfl
theorem ca_X4_isSame_49 : ca_X4_isSame 49 = some (0, 4, 3, 0, 0, Tr_X4_covered) := rfl
theorem ca_X4_isSame_73 : ca_X4_isSame 73 = some (0, 4, 2, 0, 0, Tr_X4_on) := rfl
theorem ca_X4_isSame_77 : ca_X4_isSame 77 = some (0, 4, 1, 0, 0, Tr_X4_covered_) := rfl
theorem ca_X4_isSame_80 : ca_X4_isSame 80 = some (0, 4, 1, 0, 0, Tr_X4_rot) := rfl
theorem ca_X4_isSame_82 : ca_X4_isSame 82 = some (0, 3, 2, 0, 0, Tr_X3_count) := rfl
theorem ca_X4_isSame_86 : ca_X4_isSame 86 = some (0, 3, 1, 0, 0, Tr_X3_share) := rfl
theorem cm_X4_isSame : ∀ i q, ca_X4_isSame i = some q → ab_moq i q := ab_lk_all (ab_all_c mo_X4_hold (ab_all_c mo_X4_upon (ab_all_c mo_X3_slate (ab_all_c mo_X3_place (ab_all_c mo_X4_at (ab_all_c mo_X4_covered (ab_all_c mo_X4_on (ab_all_c mo_X4_covered_ (ab_all_c mo_X4_rot (ab_all_c mo_X3_count (ab_all_c mo_X3_share (ab_all_n))))))))))))
set_option maxRecDepth 100000 in
set_option maxHeartbeats 4000000 in
theorem same_w {base : Nat} {K : Option AV → AH → Prop} {V : AVt} {h : AH} {a r : Nat} {N : SN} {M : SM} {AA : SA} {S : RS} {v : RS × (Int → Int) × TS} (hV : ab_Hv tbX4 lw_ts base cX4_isSame ca_X4_isSame 2 201 1607 K V) (hA : simAt h a (N, M)) (hB : srAt h r (AA, (S, v))) (hS : SameF S M) {kk p g : Nat} {h3 : AH} {k z : Nat} (hkz : k ≤ 201 ∧ z ≤ 1607) (hkk : (kk : Int) < (M.n : Int)) (fo : ab_fo h h3 (fun _ => False)) (hg : h3 g = some (.inr (.inl (0, 8, rw8 M kk))))
    (hE : ∀ _ : Int, V 103 [some (.inr (.inl (some a))), some (.inr (.inl (some r))), some (.inl ((kk : Int))), some (.inr (.inl (some p))), some (.inr (.inl (some g))), some (.inl (8))] [] h3 k z) :
    ∀ (m : Nat) (what : Int), what + m = 8 → 0 ≤ what → V 103 [some (.inr (.inl (some a))), some (.inr (.inl (some r))), some (.inl ((kk : Int))), some (.inr (.inl (some p))), some (.inr (.inl (some g))), some (.inl (what))] [] h3 k z := by
  intro m
  induction m with
  | zero =>
    intro what hw h0
    have e : what = 8 := by omega
    subst e
    exact hE 8
  | succ m ih =>
    intro what hw h0
    have g1 := sim_fo hA fo
    have g2 := sr_fo hB fo
    obtain ⟨mb, D, nd, D0, D1, D2, r0, r1, r2⟩ := id g1
    have hsl0 := mb.1
    have hn0 := mb.2.2.2.1
    dsimp only at D D0 D1 D2 r0 r1 r2 hsl0 hn0
    have hsg := sim_of g1
    have hrg := sr_of g2
    have E := g2.1
    dsimp only at E
    have hlt : ¬ 8 ≤ what := by omega
    have i0 := ih (what + 1) (by omega) (by omega)
    have e1 := rw8_at (M := M) (k := kk) h0 (by omega)
    have e2 := hS.2.1 kk what (by omega) hkk h0 (by omega)
    have e3 : rw8 M kk what = tellF S kk what := e1.trans e2.symm
    have e4 := toldS_r (M := M) (k := kk) (what := what) mb
    rw [← e2] at e4
    have hla : (M.n : Int) = S.laid := hS.1
    clear r0 r1 r2 mb hsl0 hE ih hS hA hB
    refine hV (fun p => p == 103) 80 _ _ _ _ _ _ ?_
    simp only [D, E, hg, hrg, e3, hlt, bI_in, bI_0, bI_1, bI_t, bI_f, bI_01, Tr_X3_slate, ae_aload, ae_aload_n, ae_bipush, ae_goto, ae_iaload, ae_iconst, ae_if_icmp, ae_iinc, ae_iload, ae_iload_n, ae_invokevirtual, ae_ireturn, dX4_isSame_103, dX4_isSame_105, dX4_isSame_107, dX4_isSame_110, dX4_isSame_111, dX4_isSame_112, dX4_isSame_114, dX4_isSame_117, dX4_isSame_119, dX4_isSame_121, dX4_isSame_122, dX4_isSame_125, dX4_isSame_126, dX4_isSame_127, dX4_isSame_130, ca_X4_isSame_43, ca_X4_isSame_35, ca_X4_isSame_61, ca_X4_isSame_67, ca_X4_isSame_70, ca_X4_isSame_49, ca_X4_isSame_73, ca_X4_isSame_77, ca_X4_isSame_80, ca_X4_isSame_82, ca_X4_isSame_86, ab_wp0, ab_wps, ab_stp, ab_g, ab_st, ab_k2, ab_cl, ab_pop, ab_sz, ab_2, ab_ret, ab_f4, ab_tg, ab_I, ab_II, ab_A, ab_Rf, ab_VR, ab_IR, ab_VIR, ab_1, ab_LL, ab_DD, ab_ob, ab_pr, ab_qr, ab_ln, ab_so, ab_vI, ab_vA, ab_vD, ab_vL, ab_v2, ab_c, ab_fit, ab_rv, ab_tsw, ab_lsw, ab_up_eq, Fin.isValue, ab_f0, ab_f1, ab_f2, ab_f3, List.getElem?_cons_zero, List.getElem?_cons_succ, List.set_cons_zero, List.set_cons_succ, List.length_cons, List.length_nil, List.size_toArray, List.head?_cons, List.tail_cons, Option.map_some, cond_true, cond_false, true_and, and_true, false_and, and_false, not_true_eq_false, not_false_eq_true, true_imp_iff, false_imp_iff, if_true, if_false, ite_true, ite_false, ↓reduceIte, Nat.reduceAdd, Nat.reduceEqDiff, Nat.reduceLeDiff, Nat.reduceLT, Nat.reduceBEq, Nat.reduceBNe, Int.reduceAdd, Int.reduceNeg, Int.reduceSub, Int.reduceLE, Int.reduceLT, Int.reduceToNat, Int.reduceEq, Int.reduceMul, Int.cast_ofNat_Int, Nat.zero_add, Nat.add_zero, Nat.le_refl, eq_self, ne_eq, reduceCtorEq, or_true, true_or, or_false, false_or, Bool.or_true, Bool.or_false, Bool.true_or, Bool.false_or, Nat.zero_le, Int.le_refl, Int.ofNat_zero, Int.ofNat_one, Bool.false_eq_true]
    try simp only [ab_in]
    (repeat' (first | intro _ | refine And.intro ?_ ?_)) <;> (first | exact i0 | exact rfl | contradiction | omega | (exfalso; omega))
theorem sim_freshF {h h1 : AH} {g : Nat} (hf : ab_fo h h1 (fun _ => False)) (hg : h1 g = none) : h g = none := by
  cases hc : h g with
  | none => rfl
  | some c => rw [hf g id (by rw [hc]; exact fun q => by cases q), hc] at hg; cases hg
set_option maxRecDepth 100000 in
set_option maxHeartbeats 4000000 in
theorem same_k {base : Nat} {K : Option AV → AH → Prop} {V : AVt} {h : AH} {a r : Nat} {N : SN} {M : SM} {AA : SA} {S : RS} {v : RS × (Int → Int) × TS} (hV : ab_Hv tbX4 lw_ts base cX4_isSame ca_X4_isSame 2 201 1607 K V) (hA : simAt h a (N, M)) (hB : srAt h r (AA, (S, v))) (hS : SameF S M) (hE : ∀ w3 w4 w5 h3, ab_fo h h3 (fun _ => False) → V 2 [some (.inr (.inl (some a))), some (.inr (.inl (some r))), some (.inl ((M.n : Int))), w3, w4, w5] [] h3 M.n (8 * M.n)) :
    ∀ (m kk : Nat) (w3 w4 w5 : Option AV) (h3 : AH), kk + m = M.n → ab_fo h h3 (fun _ => False) → V 2 [some (.inr (.inl (some a))), some (.inr (.inl (some r))), some (.inl ((kk : Int))), w3, w4, w5] [] h3 kk (8 * kk) := by
  intro m
  induction m with
  | zero =>
    intro kk w3 w4 w5 h3 hk fo
    have e : kk = M.n := by omega
    subst e
    exact hE w3 w4 w5 h3 fo
  | succ m ih =>
    intro kk w3 w4 w5 h3 hk fo
    have g1 := sim_fo hA fo
    have g2 := sr_fo hB fo
    obtain ⟨mb, D, nd, D0, D1, D2, r0, r1, r2⟩ := id g1
    have hsl0 := mb.1
    have hn0 := mb.2.2.2.1
    dsimp only at D D0 D1 D2 r0 r1 r2 hsl0 hn0
    have hsg := sim_of g1
    have hrg := sr_of g2
    have E := g2.1
    dsimp only at E
    have hlt : ¬ (M.n : Int) ≤ (kk : Int) := by omega
    have hnn : M.n ≤ 200 := hn0
    obtain ⟨p, hp, hpc⟩ := r0.1 kk (by omega) (by omega)
    have hcT : slB (M.sl kk) = True := eq_true (hsl0 kk)
    have b5 := slB_5 (hsl0 kk)
    refine hV (fun p => p == 22) 80 _ _ _ _ _ _ ?_
    simp only [D, D0, hlt, hp, bI_in, bI_0, bI_1, bI_t, bI_f, bI_01, ae_aaload, ae_aload_n, ae_arraylength, ae_astore_n, ae_bipush, ae_getfield, ae_if_icmp, ae_iload_n, ae_newarray, dX4_isSame_2, dX4_isSame_3, dX4_isSame_4, dX4_isSame_7, dX4_isSame_8, dX4_isSame_11, dX4_isSame_12, dX4_isSame_15, dX4_isSame_16, dX4_isSame_17, dX4_isSame_18, dX4_isSame_20, tbX4_g9, ca_X4_isSame_43, ca_X4_isSame_35, ca_X4_isSame_61, ca_X4_isSame_67, ca_X4_isSame_70, ca_X4_isSame_49, ca_X4_isSame_73, ca_X4_isSame_77, ca_X4_isSame_80, ca_X4_isSame_82, ca_X4_isSame_86, ab_wp0, ab_wps, ab_stp, ab_g, ab_st, ab_k2, ab_cl, ab_pop, ab_sz, ab_2, ab_ret, ab_f4, ab_tg, ab_I, ab_II, ab_A, ab_Rf, ab_VR, ab_IR, ab_VIR, ab_1, ab_LL, ab_DD, ab_ob, ab_pr, ab_qr, ab_ln, ab_so, ab_vI, ab_vA, ab_vD, ab_vL, ab_v2, ab_c, ab_fit, ab_rv, ab_tsw, ab_lsw, ab_up_eq, Fin.isValue, ab_f0, ab_f1, ab_f2, ab_f3, List.getElem?_cons_zero, List.getElem?_cons_succ, List.set_cons_zero, List.set_cons_succ, List.length_cons, List.length_nil, List.size_toArray, List.head?_cons, List.tail_cons, Option.map_some, cond_true, cond_false, true_and, and_true, false_and, and_false, not_true_eq_false, not_false_eq_true, true_imp_iff, false_imp_iff, if_true, if_false, ite_true, ite_false, ↓reduceIte, Nat.reduceAdd, Nat.reduceEqDiff, Nat.reduceLeDiff, Nat.reduceLT, Nat.reduceBEq, Nat.reduceBNe, Int.reduceAdd, Int.reduceNeg, Int.reduceSub, Int.reduceLE, Int.reduceLT, Int.reduceToNat, Int.reduceEq, Int.reduceMul, Int.cast_ofNat_Int, Nat.zero_add, Nat.add_zero, Nat.le_refl, eq_self, ne_eq, reduceCtorEq, or_true, true_or, or_false, false_or, Bool.or_true, Bool.or_false, Bool.true_or, Bool.false_or, Nat.zero_le, Int.le_refl, Int.ofNat_zero, Int.ofNat_one, Bool.false_eq_true]
    try simp only [ab_in]
    repeat (refine ⟨by first | omega | (refine ⟨by decide, by omega⟩), ?_⟩)
    intro g hg _
    have hpg : ¬ p = g := by rintro rfl; rw [hg] at hpc; cases hpc
    have hag : ¬ a = g := by rintro rfl; rw [hg] at D; cases D
    have hsn : ∀ c, ab_sim (ab_up h3 g c) a = some (N, M) := fun c => sim_of (sim_new g1 hg)
    have fo2 : ∀ c, ab_fo h (ab_up h3 g c) (fun _ => False) := fun c => fo.up2 (Or.inr (sim_freshF fo hg))
    have ek : ((kk + 1 : Nat) : Int) = (kk : Int) + 1 := by omega
    have i1 := same_w (p := p) (g := g) (h3 := ab_up h3 g (.inr (.inl (0, 8, rw8 M kk)))) (k := kk + 1) (z := 8 * kk + 8) hV hA hB hS (kk := kk) (by omega) (by omega) (fo2 _) (ab_up_eq _ _ _) (fun _ => by
      have i0 := ih (kk + 1) (some (.inr (.inl (some p)))) (some (.inr (.inl (some g)))) (some (.inl 8)) _ (by omega) (fo2 (.inr (.inl (0, 8, rw8 M kk))))
      rw [ek] at i0
      clear r0 r1 r2 mb hsl0 ih hS hA hB hE
      refine hV (fun p => p == 2) 80 _ _ _ _ _ _ ?_
      simp only [bI_in, bI_0, bI_1, bI_t, bI_f, bI_01, ae_aload, ae_aload_n, ae_bipush, ae_goto, ae_iaload, ae_iconst, ae_if_icmp, ae_iinc, ae_iload, ae_iload_n, ae_invokevirtual, ae_ireturn, dX4_isSame_103, dX4_isSame_105, dX4_isSame_107, dX4_isSame_110, dX4_isSame_111, dX4_isSame_112, dX4_isSame_114, dX4_isSame_117, dX4_isSame_119, dX4_isSame_121, dX4_isSame_122, dX4_isSame_125, dX4_isSame_126, dX4_isSame_127, dX4_isSame_130, dX4_isSame_133, dX4_isSame_136, ca_X4_isSame_43, ca_X4_isSame_35, ca_X4_isSame_61, ca_X4_isSame_67, ca_X4_isSame_70, ca_X4_isSame_49, ca_X4_isSame_73, ca_X4_isSame_77, ca_X4_isSame_80, ca_X4_isSame_82, ca_X4_isSame_86, ab_wp0, ab_wps, ab_stp, ab_g, ab_st, ab_k2, ab_cl, ab_pop, ab_sz, ab_2, ab_ret, ab_f4, ab_tg, ab_I, ab_II, ab_A, ab_Rf, ab_VR, ab_IR, ab_VIR, ab_1, ab_LL, ab_DD, ab_ob, ab_pr, ab_qr, ab_ln, ab_so, ab_vI, ab_vA, ab_vD, ab_vL, ab_v2, ab_c, ab_fit, ab_rv, ab_tsw, ab_lsw, ab_up_eq, Fin.isValue, ab_f0, ab_f1, ab_f2, ab_f3, List.getElem?_cons_zero, List.getElem?_cons_succ, List.set_cons_zero, List.set_cons_succ, List.length_cons, List.length_nil, List.size_toArray, List.head?_cons, List.tail_cons, Option.map_some, cond_true, cond_false, true_and, and_true, false_and, and_false, not_true_eq_false, not_false_eq_true, true_imp_iff, false_imp_iff, if_true, if_false, ite_true, ite_false, ↓reduceIte, Nat.reduceAdd, Nat.reduceEqDiff, Nat.reduceLeDiff, Nat.reduceLT, Nat.reduceBEq, Nat.reduceBNe, Int.reduceAdd, Int.reduceNeg, Int.reduceSub, Int.reduceLE, Int.reduceLT, Int.reduceToNat, Int.reduceEq, Int.reduceMul, Int.cast_ofNat_Int, Nat.zero_add, Nat.add_zero, Nat.le_refl, eq_self, ne_eq, reduceCtorEq, or_true, true_or, or_false, false_or, Bool.or_true, Bool.or_false, Bool.true_or, Bool.false_or, Nat.zero_le, Int.le_refl, Int.ofNat_zero, Int.ofNat_one, Bool.false_eq_true]
      try simp only [ab_in]
      (repeat' (first | intro _ | refine And.intro ?_ ?_)) <;> (first | exact i0 | contradiction | omega | (exfalso; omega))) 8 0 (by omega) (by omega)
    clear r0 r1 r2 mb hsl0 ih hS hA hB hE
    unfold rw8 at i1
    by_cases h5 : M.sl kk 5 = 1
    · simp only [h5, if_true] at i1
      refine hV (fun p => p == 103) 80 _ _ _ _ _ _ ?_
      simp only [ab_up_up, ab_up_ap, hpg, hag, hsn, hpc, D, hcT, h5, if_true, if_false, bI_in, bI_0, bI_1, bI_t, bI_f, bI_01, Tr_X4_hold, Tr_X4_upon, ae_aload_n, ae_astore, ae_bipush, ae_dup, ae_goto, ae_iaload, ae_iastore, ae_iconst, ae_if_icmp, ae_invokevirtual, ae_istore, dX4_isSame_22, dX4_isSame_23, dX4_isSame_24, dX4_isSame_25, dX4_isSame_26, dX4_isSame_27, dX4_isSame_28, dX4_isSame_29, dX4_isSame_30, dX4_isSame_31, dX4_isSame_32, dX4_isSame_33, dX4_isSame_34, dX4_isSame_35, dX4_isSame_36, dX4_isSame_37, dX4_isSame_38, dX4_isSame_39, dX4_isSame_40, dX4_isSame_41, dX4_isSame_42, dX4_isSame_43, dX4_isSame_44, dX4_isSame_45, dX4_isSame_46, dX4_isSame_47, dX4_isSame_48, dX4_isSame_49, dX4_isSame_50, dX4_isSame_51, dX4_isSame_52, dX4_isSame_53, dX4_isSame_54, dX4_isSame_55, dX4_isSame_56, dX4_isSame_57, dX4_isSame_58, dX4_isSame_59, dX4_isSame_61, dX4_isSame_62, dX4_isSame_63, dX4_isSame_64, dX4_isSame_65, dX4_isSame_68, dX4_isSame_69, dX4_isSame_70, dX4_isSame_73, dX4_isSame_76, dX4_isSame_77, dX4_isSame_78, dX4_isSame_79, dX4_isSame_81, dX4_isSame_82, dX4_isSame_83, dX4_isSame_84, dX4_isSame_85, dX4_isSame_88, dX4_isSame_89, dX4_isSame_90, dX4_isSame_93, dX4_isSame_96, dX4_isSame_97, dX4_isSame_98, dX4_isSame_100, dX4_isSame_101, ca_X4_isSame_43, ca_X4_isSame_35, ca_X4_isSame_61, ca_X4_isSame_67, ca_X4_isSame_70, ca_X4_isSame_49, ca_X4_isSame_73, ca_X4_isSame_77, ca_X4_isSame_80, ca_X4_isSame_82, ca_X4_isSame_86, ab_wp0, ab_wps, ab_stp, ab_g, ab_st, ab_k2, ab_cl, ab_pop, ab_sz, ab_2, ab_ret, ab_f4, ab_tg, ab_I, ab_II, ab_A, ab_Rf, ab_VR, ab_IR, ab_VIR, ab_1, ab_LL, ab_DD, ab_ob, ab_pr, ab_qr, ab_ln, ab_so, ab_vI, ab_vA, ab_vD, ab_vL, ab_v2, ab_c, ab_fit, ab_rv, ab_tsw, ab_lsw, ab_up_eq, Fin.isValue, ab_f0, ab_f1, ab_f2, ab_f3, List.getElem?_cons_zero, List.getElem?_cons_succ, List.set_cons_zero, List.set_cons_succ, List.length_cons, List.length_nil, List.size_toArray, List.head?_cons, List.tail_cons, Option.map_some, cond_true, cond_false, true_and, and_true, false_and, and_false, not_true_eq_false, not_false_eq_true, true_imp_iff, false_imp_iff, if_true, if_false, ite_true, ite_false, ↓reduceIte, Nat.reduceAdd, Nat.reduceEqDiff, Nat.reduceLeDiff, Nat.reduceLT, Nat.reduceBEq, Nat.reduceBNe, Int.reduceAdd, Int.reduceNeg, Int.reduceSub, Int.reduceLE, Int.reduceLT, Int.reduceToNat, Int.reduceEq, Int.reduceMul, Int.cast_ofNat_Int, Nat.zero_add, Nat.add_zero, Nat.le_refl, eq_self, ne_eq, reduceCtorEq, or_true, true_or, or_false, false_or, Bool.or_true, Bool.or_false, Bool.true_or, Bool.false_or, Nat.zero_le, Int.le_refl, Int.ofNat_zero, Int.ofNat_one, Bool.false_eq_true]
      try simp only [ab_in]
      (repeat' (first | intro _ | refine And.intro ?_ ?_)) <;> (first | exact i1 | exact rfl | contradiction | omega | (exfalso; omega))
    · simp only [h5, if_false] at i1
      refine hV (fun p => p == 103) 80 _ _ _ _ _ _ ?_
      simp only [ab_up_up, ab_up_ap, hpg, hag, hsn, hpc, D, hcT, h5, if_true, if_false, bI_in, bI_0, bI_1, bI_t, bI_f, bI_01, Tr_X4_hold, Tr_X4_upon, ae_aload_n, ae_astore, ae_bipush, ae_dup, ae_goto, ae_iaload, ae_iastore, ae_iconst, ae_if_icmp, ae_invokevirtual, ae_istore, dX4_isSame_22, dX4_isSame_23, dX4_isSame_24, dX4_isSame_25, dX4_isSame_26, dX4_isSame_27, dX4_isSame_28, dX4_isSame_29, dX4_isSame_30, dX4_isSame_31, dX4_isSame_32, dX4_isSame_33, dX4_isSame_34, dX4_isSame_35, dX4_isSame_36, dX4_isSame_37, dX4_isSame_38, dX4_isSame_39, dX4_isSame_40, dX4_isSame_41, dX4_isSame_42, dX4_isSame_43, dX4_isSame_44, dX4_isSame_45, dX4_isSame_46, dX4_isSame_47, dX4_isSame_48, dX4_isSame_49, dX4_isSame_50, dX4_isSame_51, dX4_isSame_52, dX4_isSame_53, dX4_isSame_54, dX4_isSame_55, dX4_isSame_56, dX4_isSame_57, dX4_isSame_58, dX4_isSame_59, dX4_isSame_61, dX4_isSame_62, dX4_isSame_63, dX4_isSame_64, dX4_isSame_65, dX4_isSame_68, dX4_isSame_69, dX4_isSame_70, dX4_isSame_73, dX4_isSame_76, dX4_isSame_77, dX4_isSame_78, dX4_isSame_79, dX4_isSame_81, dX4_isSame_82, dX4_isSame_83, dX4_isSame_84, dX4_isSame_85, dX4_isSame_88, dX4_isSame_89, dX4_isSame_90, dX4_isSame_93, dX4_isSame_96, dX4_isSame_97, dX4_isSame_98, dX4_isSame_100, dX4_isSame_101, ca_X4_isSame_43, ca_X4_isSame_35, ca_X4_isSame_61, ca_X4_isSame_67, ca_X4_isSame_70, ca_X4_isSame_49, ca_X4_isSame_73, ca_X4_isSame_77, ca_X4_isSame_80, ca_X4_isSame_82, ca_X4_isSame_86, ab_wp0, ab_wps, ab_stp, ab_g, ab_st, ab_k2, ab_cl, ab_pop, ab_sz, ab_2, ab_ret, ab_f4, ab_tg, ab_I, ab_II, ab_A, ab_Rf, ab_VR, ab_IR, ab_VIR, ab_1, ab_LL, ab_DD, ab_ob, ab_pr, ab_qr, ab_ln, ab_so, ab_vI, ab_vA, ab_vD, ab_vL, ab_v2, ab_c, ab_fit, ab_rv, ab_tsw, ab_lsw, ab_up_eq, Fin.isValue, ab_f0, ab_f1, ab_f2, ab_f3, List.getElem?_cons_zero, List.getElem?_cons_succ, List.set_cons_zero, List.set_cons_succ, List.length_cons, List.length_nil, List.size_toArray, List.head?_cons, List.tail_cons, Option.map_some, cond_true, cond_false, true_and, and_true, false_and, and_false, not_true_eq_false, not_false_eq_true, true_imp_iff, false_imp_iff, if_true, if_false, ite_true, ite_false, ↓reduceIte, Nat.reduceAdd, Nat.reduceEqDiff, Nat.reduceLeDiff, Nat.reduceLT, Nat.reduceBEq, Nat.reduceBNe, Int.reduceAdd, Int.reduceNeg, Int.reduceSub, Int.reduceLE, Int.reduceLT, Int.reduceToNat, Int.reduceEq, Int.reduceMul, Int.cast_ofNat_Int, Nat.zero_add, Nat.add_zero, Nat.le_refl, eq_self, ne_eq, reduceCtorEq, or_true, true_or, or_false, false_or, Bool.or_true, Bool.or_false, Bool.true_or, Bool.false_or, Nat.zero_le, Int.le_refl, Int.ofNat_zero, Int.ofNat_one, Bool.false_eq_true]
      try simp only [ab_in]
      (repeat' (first | intro _ | refine And.intro ?_ ?_)) <;> (first | exact i1 | exact rfl | contradiction | omega | (exfalso; omega))
set_option maxRecDepth 100000 in
set_option maxHeartbeats 4000000 in
theorem same_y {base : Nat} {K : Option AV → AH → Prop} {V : AVt} {h : AH} {a r : Nat} {N : SN} {M : SM} {AA : SA} {S : RS} {v : RS × (Int → Int) × TS} (hV : ab_Hv tbX4 lw_ts base cX4_isSame ca_X4_isSame 2 201 1607 K V) (hA : simAt h a (N, M)) (hB : srAt h r (AA, (S, v))) (hS : SameF S M) {h3 : AH} {k z : Nat} (hkz : k ≤ 201 ∧ z ≤ 1607) (fo : ab_fo h h3 (fun _ => False)) {w4 w5 : Option AV} {x : Int} (hx : 0 ≤ x ∧ x ≤ 11) (hE : V 141 [some (.inr (.inl (some a))), some (.inr (.inl (some r))), some (.inl (x + 1)), some (.inl (8)), w4, w5] [] h3 k z) :
    ∀ (m : Nat) (y : Int), y + m = 8 → 0 ≤ y → V 149 [some (.inr (.inl (some a))), some (.inr (.inl (some r))), some (.inl (x)), some (.inl (y)), w4, w5] [] h3 k z := by
  intro m
  induction m with
  | zero =>
    intro y hy h0
    have e : y = 8 := by omega
    subst e
    refine hV (fun p => bif p == 141 then true else p == 149) 80 _ _ _ _ _ _ ?_
    simp only [bI_in, bI_0, bI_1, bI_t, bI_f, bI_01, ae_aaload, ae_aload_n, ae_bipush, ae_getfield, ae_goto, ae_iaload, ae_iconst, ae_ifCond, ae_if_icmp, ae_iinc, ae_iload_n, ae_invokevirtual, ae_ireturn, dX4_isSame_149, dX4_isSame_150, dX4_isSame_152, dX4_isSame_155, dX4_isSame_156, dX4_isSame_157, dX4_isSame_158, dX4_isSame_159, dX4_isSame_162, dX4_isSame_163, dX4_isSame_164, dX4_isSame_165, dX4_isSame_168, dX4_isSame_171, dX4_isSame_172, dX4_isSame_173, dX4_isSame_174, dX4_isSame_175, dX4_isSame_178, dX4_isSame_179, dX4_isSame_180, dX4_isSame_181, dX4_isSame_184, dX4_isSame_187, dX4_isSame_188, dX4_isSame_191, dX4_isSame_192, dX4_isSame_195, dX4_isSame_196, dX4_isSame_197, dX4_isSame_198, dX4_isSame_199, dX4_isSame_202, dX4_isSame_203, dX4_isSame_206, dX4_isSame_207, dX4_isSame_208, dX4_isSame_209, dX4_isSame_210, dX4_isSame_213, dX4_isSame_214, dX4_isSame_215, dX4_isSame_218, dX4_isSame_221, dX4_isSame_224, tbX4_g16, ca_X4_isSame_43, ca_X4_isSame_35, ca_X4_isSame_61, ca_X4_isSame_67, ca_X4_isSame_70, ca_X4_isSame_49, ca_X4_isSame_73, ca_X4_isSame_77, ca_X4_isSame_80, ca_X4_isSame_82, ca_X4_isSame_86, ab_wp0, ab_wps, ab_stp, ab_g, ab_st, ab_k2, ab_cl, ab_pop, ab_sz, ab_2, ab_ret, ab_f4, ab_tg, ab_I, ab_II, ab_A, ab_Rf, ab_VR, ab_IR, ab_VIR, ab_1, ab_LL, ab_DD, ab_ob, ab_pr, ab_qr, ab_ln, ab_so, ab_vI, ab_vA, ab_vD, ab_vL, ab_v2, ab_c, ab_fit, ab_rv, ab_tsw, ab_lsw, ab_up_eq, Fin.isValue, ab_f0, ab_f1, ab_f2, ab_f3, List.getElem?_cons_zero, List.getElem?_cons_succ, List.set_cons_zero, List.set_cons_succ, List.length_cons, List.length_nil, List.size_toArray, List.head?_cons, List.tail_cons, Option.map_some, cond_true, cond_false, true_and, and_true, false_and, and_false, not_true_eq_false, not_false_eq_true, true_imp_iff, false_imp_iff, if_true, if_false, ite_true, ite_false, ↓reduceIte, Nat.reduceAdd, Nat.reduceEqDiff, Nat.reduceLeDiff, Nat.reduceLT, Nat.reduceBEq, Nat.reduceBNe, Int.reduceAdd, Int.reduceNeg, Int.reduceSub, Int.reduceLE, Int.reduceLT, Int.reduceToNat, Int.reduceEq, Int.reduceMul, Int.cast_ofNat_Int, Nat.zero_add, Nat.add_zero, Nat.le_refl, eq_self, ne_eq, reduceCtorEq, or_true, true_or, or_false, false_or, Bool.or_true, Bool.or_false, Bool.true_or, Bool.false_or, Nat.zero_le, Int.le_refl, Int.ofNat_zero, Int.ofNat_one, Bool.false_eq_true]
    try simp only [ab_in]
    (repeat' (first | intro _ | refine And.intro ?_ ?_)) <;> (first | exact hE | contradiction | omega | (exfalso; omega))
  | succ m ih =>
    intro y hy h0
    have g1 := sim_fo hA fo
    have g2 := sr_fo hB fo
    obtain ⟨mb, D, nd, D0, D1, D2, r0, r1, r2⟩ := id g1
    have hsl0 := mb.1
    have hn0 := mb.2.2.2.1
    dsimp only at D D0 D1 D2 r0 r1 r2 hsl0 hn0
    have hsg := sim_of g1
    have hrg := sr_of g2
    have E := g2.1
    dsimp only at E
    have hlt : ¬ 8 ≤ y := by omega
    have i0 := ih (y + 1) (by omega) (by omega)
    obtain ⟨p, hp, hpc⟩ := r1.1 x (by omega) (by omega)
    obtain ⟨s1, s2, s3⟩ := hS.2.2.1 x y hx.1 hx.2 h0 (by omega)
    have q0 : placeF S x y 0 = atS M x y := by rw [← s1]; rfl
    have q1 : placeF S x y 1 = bI (covS M x y) := by rw [← s2]; rfl
    have q2 : placeF S x y 2 = M.rt x y := by rw [← s3]; rfl
    have q3 : 0 ≤ M.rt x y ∧ M.rt x y ≤ 9 := mb.2.1 x y
    have q4 : -1 ≤ atS M x y ∧ atS M x y < 200 := by rw [← s1]; exact numberAtF_r (roof_el g2.2.1).1 x y
    clear r0 r1 r2 mb hsl0 ih hS hA hB s1 s2 s3 hE
    cases hc : covS M x y
    · rw [hc] at q1
      simp only [bI_f] at q1
      refine hV (fun p => p == 149) 80 _ _ _ _ _ _ ?_
      simp only [D, D1, E, hsg, hrg, hp, hpc, q0, q1, q2, hlt, hc, bI_in, bI_0, bI_1, bI_t, bI_f, bI_01, Tr_X3_place, Tr_X4_at, Tr_X4_covered, ae_aaload, ae_aload_n, ae_bipush, ae_getfield, ae_goto, ae_iaload, ae_iconst, ae_ifCond, ae_if_icmp, ae_iinc, ae_iload_n, ae_invokevirtual, ae_ireturn, dX4_isSame_149, dX4_isSame_150, dX4_isSame_152, dX4_isSame_155, dX4_isSame_156, dX4_isSame_157, dX4_isSame_158, dX4_isSame_159, dX4_isSame_162, dX4_isSame_163, dX4_isSame_164, dX4_isSame_165, dX4_isSame_168, dX4_isSame_171, dX4_isSame_172, dX4_isSame_173, dX4_isSame_174, dX4_isSame_175, dX4_isSame_178, dX4_isSame_179, dX4_isSame_180, dX4_isSame_181, dX4_isSame_184, dX4_isSame_187, dX4_isSame_188, dX4_isSame_191, dX4_isSame_192, dX4_isSame_195, dX4_isSame_196, dX4_isSame_197, dX4_isSame_198, dX4_isSame_199, dX4_isSame_202, dX4_isSame_203, dX4_isSame_206, dX4_isSame_207, dX4_isSame_208, dX4_isSame_209, dX4_isSame_210, dX4_isSame_213, dX4_isSame_214, dX4_isSame_215, dX4_isSame_218, tbX4_g16, ca_X4_isSame_43, ca_X4_isSame_35, ca_X4_isSame_61, ca_X4_isSame_67, ca_X4_isSame_70, ca_X4_isSame_49, ca_X4_isSame_73, ca_X4_isSame_77, ca_X4_isSame_80, ca_X4_isSame_82, ca_X4_isSame_86, ab_wp0, ab_wps, ab_stp, ab_g, ab_st, ab_k2, ab_cl, ab_pop, ab_sz, ab_2, ab_ret, ab_f4, ab_tg, ab_I, ab_II, ab_A, ab_Rf, ab_VR, ab_IR, ab_VIR, ab_1, ab_LL, ab_DD, ab_ob, ab_pr, ab_qr, ab_ln, ab_so, ab_vI, ab_vA, ab_vD, ab_vL, ab_v2, ab_c, ab_fit, ab_rv, ab_tsw, ab_lsw, ab_up_eq, Fin.isValue, ab_f0, ab_f1, ab_f2, ab_f3, List.getElem?_cons_zero, List.getElem?_cons_succ, List.set_cons_zero, List.set_cons_succ, List.length_cons, List.length_nil, List.size_toArray, List.head?_cons, List.tail_cons, Option.map_some, cond_true, cond_false, true_and, and_true, false_and, and_false, not_true_eq_false, not_false_eq_true, true_imp_iff, false_imp_iff, if_true, if_false, ite_true, ite_false, ↓reduceIte, Nat.reduceAdd, Nat.reduceEqDiff, Nat.reduceLeDiff, Nat.reduceLT, Nat.reduceBEq, Nat.reduceBNe, Int.reduceAdd, Int.reduceNeg, Int.reduceSub, Int.reduceLE, Int.reduceLT, Int.reduceToNat, Int.reduceEq, Int.reduceMul, Int.cast_ofNat_Int, Nat.zero_add, Nat.add_zero, Nat.le_refl, eq_self, ne_eq, reduceCtorEq, or_true, true_or, or_false, false_or, Bool.or_true, Bool.or_false, Bool.true_or, Bool.false_or, Nat.zero_le, Int.le_refl, Int.ofNat_zero, Int.ofNat_one, Bool.false_eq_true]
      try simp only [ab_in]
      (repeat' (first | intro _ | refine And.intro ?_ ?_)) <;> (first | exact i0 | exact rfl | contradiction | omega | (exfalso; omega))
    · rw [hc] at q1
      simp only [bI_t] at q1
      refine hV (fun p => p == 149) 80 _ _ _ _ _ _ ?_
      simp only [D, D1, E, hsg, hrg, hp, hpc, q0, q1, q2, hlt, hc, bI_in, bI_0, bI_1, bI_t, bI_f, bI_01, Tr_X3_place, Tr_X4_at, Tr_X4_covered, ae_aaload, ae_aload_n, ae_bipush, ae_getfield, ae_goto, ae_iaload, ae_iconst, ae_ifCond, ae_if_icmp, ae_iinc, ae_iload_n, ae_invokevirtual, ae_ireturn, dX4_isSame_149, dX4_isSame_150, dX4_isSame_152, dX4_isSame_155, dX4_isSame_156, dX4_isSame_157, dX4_isSame_158, dX4_isSame_159, dX4_isSame_162, dX4_isSame_163, dX4_isSame_164, dX4_isSame_165, dX4_isSame_168, dX4_isSame_171, dX4_isSame_172, dX4_isSame_173, dX4_isSame_174, dX4_isSame_175, dX4_isSame_178, dX4_isSame_179, dX4_isSame_180, dX4_isSame_181, dX4_isSame_184, dX4_isSame_187, dX4_isSame_188, dX4_isSame_191, dX4_isSame_192, dX4_isSame_195, dX4_isSame_196, dX4_isSame_197, dX4_isSame_198, dX4_isSame_199, dX4_isSame_202, dX4_isSame_203, dX4_isSame_206, dX4_isSame_207, dX4_isSame_208, dX4_isSame_209, dX4_isSame_210, dX4_isSame_213, dX4_isSame_214, dX4_isSame_215, dX4_isSame_218, tbX4_g16, ca_X4_isSame_43, ca_X4_isSame_35, ca_X4_isSame_61, ca_X4_isSame_67, ca_X4_isSame_70, ca_X4_isSame_49, ca_X4_isSame_73, ca_X4_isSame_77, ca_X4_isSame_80, ca_X4_isSame_82, ca_X4_isSame_86, ab_wp0, ab_wps, ab_stp, ab_g, ab_st, ab_k2, ab_cl, ab_pop, ab_sz, ab_2, ab_ret, ab_f4, ab_tg, ab_I, ab_II, ab_A, ab_Rf, ab_VR, ab_IR, ab_VIR, ab_1, ab_LL, ab_DD, ab_ob, ab_pr, ab_qr, ab_ln, ab_so, ab_vI, ab_vA, ab_vD, ab_vL, ab_v2, ab_c, ab_fit, ab_rv, ab_tsw, ab_lsw, ab_up_eq, Fin.isValue, ab_f0, ab_f1, ab_f2, ab_f3, List.getElem?_cons_zero, List.getElem?_cons_succ, List.set_cons_zero, List.set_cons_succ, List.length_cons, List.length_nil, List.size_toArray, List.head?_cons, List.tail_cons, Option.map_some, cond_true, cond_false, true_and, and_true, false_and, and_false, not_true_eq_false, not_false_eq_true, true_imp_iff, false_imp_iff, if_true, if_false, ite_true, ite_false, ↓reduceIte, Nat.reduceAdd, Nat.reduceEqDiff, Nat.reduceLeDiff, Nat.reduceLT, Nat.reduceBEq, Nat.reduceBNe, Int.reduceAdd, Int.reduceNeg, Int.reduceSub, Int.reduceLE, Int.reduceLT, Int.reduceToNat, Int.reduceEq, Int.reduceMul, Int.cast_ofNat_Int, Nat.zero_add, Nat.add_zero, Nat.le_refl, eq_self, ne_eq, reduceCtorEq, or_true, true_or, or_false, false_or, Bool.or_true, Bool.or_false, Bool.true_or, Bool.false_or, Nat.zero_le, Int.le_refl, Int.ofNat_zero, Int.ofNat_one, Bool.false_eq_true]
      try simp only [ab_in]
      (repeat' (first | intro _ | refine And.intro ?_ ?_)) <;> (first | exact i0 | exact rfl | contradiction | omega | (exfalso; omega))
set_option maxRecDepth 100000 in
set_option maxHeartbeats 4000000 in
theorem same_x {base : Nat} {K : Option AV → AH → Prop} {V : AVt} {h : AH} {a r : Nat} {N : SN} {M : SM} {AA : SA} {S : RS} {v : RS × (Int → Int) × TS} (hV : ab_Hv tbX4 lw_ts base cX4_isSame ca_X4_isSame 2 201 1607 K V) (hA : simAt h a (N, M)) (hB : srAt h r (AA, (S, v))) (hS : SameF S M) {h3 : AH} {k z : Nat} (hkz : k ≤ 201 ∧ z ≤ 1607) (fo : ab_fo h h3 (fun _ => False)) {w4 w5 : Option AV} (hE : ∀ w, V 141 [some (.inr (.inl (some a))), some (.inr (.inl (some r))), some (.inl (12)), w, w4, w5] [] h3 k z) :
    ∀ (m : Nat) (x : Int) (w : Option AV), x + m = 12 → 0 ≤ x → V 141 [some (.inr (.inl (some a))), some (.inr (.inl (some r))), some (.inl (x)), w, w4, w5] [] h3 k z := by
  intro m
  induction m with
  | zero =>
    intro x w hx h0
    have e : x = 12 := by omega
    subst e
    exact hE w
  | succ m ih =>
    intro x w hx h0
    have hlt : ¬ 12 ≤ x := by omega
    have i0 := same_y hV hA hB hS hkz fo (w4 := w4) (w5 := w5) (x := x) (by omega) (ih (x + 1) _ (by omega) (by omega)) 8 0 (by omega) (by omega)
    clear hS hA hB hE ih
    refine hV (fun p => p == 149) 80 _ _ _ _ _ _ ?_
    simp only [hlt, bI_in, bI_0, bI_1, bI_t, bI_f, bI_01, ae_bipush, ae_iconst, ae_if_icmp, ae_iload_n, ae_istore_n, dX4_isSame_141, dX4_isSame_142, dX4_isSame_144, dX4_isSame_147, dX4_isSame_148, ca_X4_isSame_43, ca_X4_isSame_35, ca_X4_isSame_61, ca_X4_isSame_67, ca_X4_isSame_70, ca_X4_isSame_49, ca_X4_isSame_73, ca_X4_isSame_77, ca_X4_isSame_80, ca_X4_isSame_82, ca_X4_isSame_86, ab_wp0, ab_wps, ab_stp, ab_g, ab_st, ab_k2, ab_cl, ab_pop, ab_sz, ab_2, ab_ret, ab_f4, ab_tg, ab_I, ab_II, ab_A, ab_Rf, ab_VR, ab_IR, ab_VIR, ab_1, ab_LL, ab_DD, ab_ob, ab_pr, ab_qr, ab_ln, ab_so, ab_vI, ab_vA, ab_vD, ab_vL, ab_v2, ab_c, ab_fit, ab_rv, ab_tsw, ab_lsw, ab_up_eq, Fin.isValue, ab_f0, ab_f1, ab_f2, ab_f3, List.getElem?_cons_zero, List.getElem?_cons_succ, List.set_cons_zero, List.set_cons_succ, List.length_cons, List.length_nil, List.size_toArray, List.head?_cons, List.tail_cons, Option.map_some, cond_true, cond_false, true_and, and_true, false_and, and_false, not_true_eq_false, not_false_eq_true, true_imp_iff, false_imp_iff, if_true, if_false, ite_true, ite_false, ↓reduceIte, Nat.reduceAdd, Nat.reduceEqDiff, Nat.reduceLeDiff, Nat.reduceLT, Nat.reduceBEq, Nat.reduceBNe, Int.reduceAdd, Int.reduceNeg, Int.reduceSub, Int.reduceLE, Int.reduceLT, Int.reduceToNat, Int.reduceEq, Int.reduceMul, Int.cast_ofNat_Int, Nat.zero_add, Nat.add_zero, Nat.le_refl, eq_self, ne_eq, reduceCtorEq, or_true, true_or, or_false, false_or, Bool.or_true, Bool.or_false, Bool.true_or, Bool.false_or, Nat.zero_le, Int.le_refl, Int.ofNat_zero, Int.ofNat_one, Bool.false_eq_true]
    try simp only [ab_in]
    (repeat' (first | intro _ | refine And.intro ?_ ?_)) <;> (first | exact i0 | contradiction | omega | (exfalso; omega))
theorem SameF.cnt {S : RS} {M : SM} (h : SameF S M) {what : Int} (h0 : 0 ≤ what) (h6 : what ≤ 6) : countF S what = cntS M what := by
  obtain ⟨a1, -, -, b0, b2, b3, b4, b5, b6⟩ := h
  rcases (show what = 0 ∨ what = 1 ∨ what = 2 ∨ what = 3 ∨ what = 4 ∨ what = 5 ∨ what = 6 by omega) with rfl | rfl | rfl | rfl | rfl | rfl | rfl
  · exact b0
  · exact a1.symm
  · exact b2
  · exact b3
  · exact b4
  · exact b5
  · exact b6
set_option maxRecDepth 100000 in
set_option maxHeartbeats 4000000 in
theorem same_c {base : Nat} {K : Option AV → AH → Prop} {V : AVt} {h : AH} {a r : Nat} {N : SN} {M : SM} {AA : SA} {S : RS} {v : RS × (Int → Int) × TS} (hV : ab_Hv tbX4 lw_ts base cX4_isSame ca_X4_isSame 2 201 1607 K V) (hA : simAt h a (N, M)) (hB : srAt h r (AA, (S, v))) (hS : SameF S M) {g : Nat} {h3 : AH} {k z : Nat} (hkz : k ≤ 201 ∧ z ≤ 1607) (fo : ab_fo h h3 (fun _ => False)) (hg : h3 g = some (.inr (.inl (0, 7, rw7 M)))) {w4 w5 : Option AV} (hK : K (some (.inl 1)) h3) :
    ∀ (m : Nat) (x : Int), x + m = 7 → 0 ≤ x → V 287 [some (.inr (.inl (some a))), some (.inr (.inl (some r))), some (.inr (.inl (some g))), some (.inl (x)), w4, w5] [] h3 k z := by
  intro m
  induction m with
  | zero =>
    intro x hx h0
    have g1 := sim_fo hA fo
    have g2 := sr_fo hB fo
    obtain ⟨mb, D, nd, D0, D1, D2, r0, r1, r2⟩ := id g1
    have hsl0 := mb.1
    have hn0 := mb.2.2.2.1
    dsimp only at D D0 D1 D2 r0 r1 r2 hsl0 hn0
    have hsg := sim_of g1
    have hrg := sr_of g2
    have E := g2.1
    dsimp only at E
    have e : x = 7 := by omega
    subst e
    have hcr := covAllS_r M
    have s4 : covPlF S = covAllS M := hS.2.2.2.2.2.2.1
    have n1 := shD_n hcr.1 hcr.2
    have n2 := dcmp_shD hcr.1 hcr.2
    clear r0 r1 r2 mb hsl0 hS hA hB
    unfold shD at *
    refine hV (fun _ => false) 80 _ _ _ _ _ _ ?_
    simp only [D, E, hsg, hrg, s4, n2, shD, bI_in, bI_0, bI_1, bI_t, bI_f, bI_01, Tr_X3_share, Tr_X4_covered_, ae_aload_n, ae_bipush, ae_dcmp, ae_ddiv, ae_goto, ae_i2d, ae_iaload, ae_iconst, ae_ifCond, ae_if_icmp, ae_iinc, ae_iload_n, ae_invokevirtual, ae_ireturn, ae_ldc2_w, dX4_isSame_287, dX4_isSame_288, dX4_isSame_290, dX4_isSame_293, dX4_isSame_294, dX4_isSame_295, dX4_isSame_298, dX4_isSame_299, dX4_isSame_300, dX4_isSame_301, dX4_isSame_304, dX4_isSame_305, dX4_isSame_306, dX4_isSame_309, dX4_isSame_312, dX4_isSame_313, dX4_isSame_316, dX4_isSame_317, dX4_isSame_320, dX4_isSame_321, dX4_isSame_324, dX4_isSame_325, dX4_isSame_326, dX4_isSame_329, dX4_isSame_330, dX4_isSame_333, dX4_isSame_334, tbX4_c90, ca_X4_isSame_43, ca_X4_isSame_35, ca_X4_isSame_61, ca_X4_isSame_67, ca_X4_isSame_70, ca_X4_isSame_49, ca_X4_isSame_73, ca_X4_isSame_77, ca_X4_isSame_80, ca_X4_isSame_82, ca_X4_isSame_86, ab_wp0, ab_wps, ab_stp, ab_g, ab_st, ab_k2, ab_cl, ab_pop, ab_sz, ab_2, ab_ret, ab_f4, ab_tg, ab_I, ab_II, ab_A, ab_Rf, ab_VR, ab_IR, ab_VIR, ab_1, ab_LL, ab_DD, ab_ob, ab_pr, ab_qr, ab_ln, ab_so, ab_vI, ab_vA, ab_vD, ab_vL, ab_v2, ab_c, ab_fit, ab_rv, ab_tsw, ab_lsw, ab_up_eq, Fin.isValue, ab_f0, ab_f1, ab_f2, ab_f3, List.getElem?_cons_zero, List.getElem?_cons_succ, List.set_cons_zero, List.set_cons_succ, List.length_cons, List.length_nil, List.size_toArray, List.head?_cons, List.tail_cons, Option.map_some, cond_true, cond_false, true_and, and_true, false_and, and_false, not_true_eq_false, not_false_eq_true, true_imp_iff, false_imp_iff, if_true, if_false, ite_true, ite_false, ↓reduceIte, Nat.reduceAdd, Nat.reduceEqDiff, Nat.reduceLeDiff, Nat.reduceLT, Nat.reduceBEq, Nat.reduceBNe, Int.reduceAdd, Int.reduceNeg, Int.reduceSub, Int.reduceLE, Int.reduceLT, Int.reduceToNat, Int.reduceEq, Int.reduceMul, Int.cast_ofNat_Int, Nat.zero_add, Nat.add_zero, Nat.le_refl, eq_self, ne_eq, reduceCtorEq, or_true, true_or, or_false, false_or, Bool.or_true, Bool.or_false, Bool.true_or, Bool.false_or, Nat.zero_le, Int.le_refl, Int.ofNat_zero, Int.ofNat_one, Bool.false_eq_true]
    try simp only [ab_in]
    (repeat' (first | intro _ | refine And.intro ?_ ?_)) <;> (first | exact hK | exact n1 | exact rfl | contradiction | omega | (exfalso; omega))
  | succ m ih =>
    intro x hx h0
    have g1 := sim_fo hA fo
    have g2 := sr_fo hB fo
    obtain ⟨mb, D, nd, D0, D1, D2, r0, r1, r2⟩ := id g1
    have hsl0 := mb.1
    have hn0 := mb.2.2.2.1
    dsimp only at D D0 D1 D2 r0 r1 r2 hsl0 hn0
    have hsg := sim_of g1
    have hrg := sr_of g2
    have E := g2.1
    dsimp only at E
    have hlt : ¬ 7 ≤ x := by omega
    have i0 := ih (x + 1) (by omega) (by omega)
    have e1 := rw7_at (M := M) h0 (show x ≤ 6 by omega)
    have e2 := hS.cnt h0 (show x ≤ 6 by omega)
    have e3 : rw7 M x = countF S x := e1.trans e2.symm
    have e4 := cntS_r (M := M) (what := x) mb
    rw [← e2] at e4
    clear r0 r1 r2 mb hsl0 ih hS hA hB
    refine hV (fun p => p == 287) 80 _ _ _ _ _ _ ?_
    simp only [hg, E, hrg, e3, hlt, bI_in, bI_0, bI_1, bI_t, bI_f, bI_01, Tr_X3_count, ae_aload_n, ae_bipush, ae_goto, ae_iaload, ae_iconst, ae_if_icmp, ae_iinc, ae_iload_n, ae_invokevirtual, ae_ireturn, dX4_isSame_287, dX4_isSame_288, dX4_isSame_290, dX4_isSame_293, dX4_isSame_294, dX4_isSame_295, dX4_isSame_298, dX4_isSame_299, dX4_isSame_300, dX4_isSame_301, dX4_isSame_304, dX4_isSame_305, dX4_isSame_306, dX4_isSame_309, ca_X4_isSame_43, ca_X4_isSame_35, ca_X4_isSame_61, ca_X4_isSame_67, ca_X4_isSame_70, ca_X4_isSame_49, ca_X4_isSame_73, ca_X4_isSame_77, ca_X4_isSame_80, ca_X4_isSame_82, ca_X4_isSame_86, ab_wp0, ab_wps, ab_stp, ab_g, ab_st, ab_k2, ab_cl, ab_pop, ab_sz, ab_2, ab_ret, ab_f4, ab_tg, ab_I, ab_II, ab_A, ab_Rf, ab_VR, ab_IR, ab_VIR, ab_1, ab_LL, ab_DD, ab_ob, ab_pr, ab_qr, ab_ln, ab_so, ab_vI, ab_vA, ab_vD, ab_vL, ab_v2, ab_c, ab_fit, ab_rv, ab_tsw, ab_lsw, ab_up_eq, Fin.isValue, ab_f0, ab_f1, ab_f2, ab_f3, List.getElem?_cons_zero, List.getElem?_cons_succ, List.set_cons_zero, List.set_cons_succ, List.length_cons, List.length_nil, List.size_toArray, List.head?_cons, List.tail_cons, Option.map_some, cond_true, cond_false, true_and, and_true, false_and, and_false, not_true_eq_false, not_false_eq_true, true_imp_iff, false_imp_iff, if_true, if_false, ite_true, ite_false, ↓reduceIte, Nat.reduceAdd, Nat.reduceEqDiff, Nat.reduceLeDiff, Nat.reduceLT, Nat.reduceBEq, Nat.reduceBNe, Int.reduceAdd, Int.reduceNeg, Int.reduceSub, Int.reduceLE, Int.reduceLT, Int.reduceToNat, Int.reduceEq, Int.reduceMul, Int.cast_ofNat_Int, Nat.zero_add, Nat.add_zero, Nat.le_refl, eq_self, ne_eq, reduceCtorEq, or_true, true_or, or_false, false_or, Bool.or_true, Bool.or_false, Bool.true_or, Bool.false_or, Nat.zero_le, Int.le_refl, Int.ofNat_zero, Int.ofNat_one, Bool.false_eq_true]
    try simp only [ab_in]
    (repeat' (first | intro _ | refine And.intro ?_ ?_)) <;> (first | exact i0 | exact rfl | contradiction | omega | (exfalso; omega))
set_option maxRecDepth 100000 in
set_option maxHeartbeats 4000000 in
theorem sem_X4_isSame (base : Nat) : ab_Sem tbX4 lw_ts base cX4_isSame ca_X4_isSame 2 6 201 1607 (fun as => ab_en as 6) Tr_X4_isSame := by
  intro as h K hT V hV
  unfold Tr_X4_isSame at hT
  split at hT
  · rename_i a r
    obtain ⟨⟨N, M⟩, hP, hT2⟩ := ab_so_el hT
    obtain ⟨⟨AA, S, v⟩, hQ, hS, hK⟩ := ab_so_el hT2
    have hA := sim_el hP
    have hB := sr_el hQ
    have hnn : M.n ≤ 200 := hA.1.2.2.2.1
    dsimp only at hS
    show V 0 [some (.inr (.inl (some a))), some (.inr (.inl (some r))), none, none, none, none] [] h 0 0
    have last : ∀ w4 w5 h3, ab_fo h h3 (fun _ => False) → ∀ w, V 141 [some (.inr (.inl (some a))), some (.inr (.inl (some r))), some (.inl (12)), w, w4, w5] [] h3 M.n (8 * M.n) := by
      intro w4 w5 h3 fo w
      have g1 := sim_fo hA fo
      have g2 := sr_fo hB fo
      obtain ⟨mb, D, nd, D0, D1, D2, r0, r1, r2⟩ := id g1
      have hsl0 := mb.1
      have hn0 := mb.2.2.2.1
      dsimp only at D D0 D1 D2 r0 r1 r2 hsl0 hn0
      have hsg := sim_of g1
      have hrg := sr_of g2
      have E := g2.1
      dsimp only at E
      refine hV (fun p => bif p == 149 then true else p == 231) 80 _ _ _ _ _ _ ?_
      simp only [bI_in, bI_0, bI_1, bI_t, bI_f, bI_01, ae_bipush, ae_iconst, ae_if_icmp, ae_iload_n, ae_istore_n, dX4_isSame_141, dX4_isSame_142, dX4_isSame_144, dX4_isSame_147, dX4_isSame_148, ca_X4_isSame_43, ca_X4_isSame_35, ca_X4_isSame_61, ca_X4_isSame_67, ca_X4_isSame_70, ca_X4_isSame_49, ca_X4_isSame_73, ca_X4_isSame_77, ca_X4_isSame_80, ca_X4_isSame_82, ca_X4_isSame_86, ab_wp0, ab_wps, ab_stp, ab_g, ab_st, ab_k2, ab_cl, ab_pop, ab_sz, ab_2, ab_ret, ab_f4, ab_tg, ab_I, ab_II, ab_A, ab_Rf, ab_VR, ab_IR, ab_VIR, ab_1, ab_LL, ab_DD, ab_ob, ab_pr, ab_qr, ab_ln, ab_so, ab_vI, ab_vA, ab_vD, ab_vL, ab_v2, ab_c, ab_fit, ab_rv, ab_tsw, ab_lsw, ab_up_eq, Fin.isValue, ab_f0, ab_f1, ab_f2, ab_f3, List.getElem?_cons_zero, List.getElem?_cons_succ, List.set_cons_zero, List.set_cons_succ, List.length_cons, List.length_nil, List.size_toArray, List.head?_cons, List.tail_cons, Option.map_some, cond_true, cond_false, true_and, and_true, false_and, and_false, not_true_eq_false, not_false_eq_true, true_imp_iff, false_imp_iff, if_true, if_false, ite_true, ite_false, ↓reduceIte, Nat.reduceAdd, Nat.reduceEqDiff, Nat.reduceLeDiff, Nat.reduceLT, Nat.reduceBEq, Nat.reduceBNe, Int.reduceAdd, Int.reduceNeg, Int.reduceSub, Int.reduceLE, Int.reduceLT, Int.reduceToNat, Int.reduceEq, Int.reduceMul, Int.cast_ofNat_Int, Nat.zero_add, Nat.add_zero, Nat.le_refl, eq_self, ne_eq, reduceCtorEq, or_true, true_or, or_false, false_or, Bool.or_true, Bool.or_false, Bool.true_or, Bool.false_or, Nat.zero_le, Int.le_refl, Int.ofNat_zero, Int.ofNat_one, Bool.false_eq_true, ae_bipush, ae_newarray, dX4_isSame_227, dX4_isSame_229, ca_X4_isSame_43, ca_X4_isSame_35, ca_X4_isSame_61, ca_X4_isSame_67, ca_X4_isSame_70, ca_X4_isSame_49, ca_X4_isSame_73, ca_X4_isSame_77, ca_X4_isSame_80, ca_X4_isSame_82, ca_X4_isSame_86, ab_wp0, ab_wps, ab_stp, ab_g, ab_st, ab_k2, ab_cl, ab_pop, ab_sz, ab_2, ab_ret, ab_f4, ab_tg, ab_I, ab_II, ab_A, ab_Rf, ab_VR, ab_IR, ab_VIR, ab_1, ab_LL, ab_DD, ab_ob, ab_pr, ab_qr, ab_ln, ab_so, ab_vI, ab_vA, ab_vD, ab_vL, ab_v2, ab_c, ab_fit, ab_rv, ab_tsw, ab_lsw, ab_up_eq, Fin.isValue, ab_f0, ab_f1, ab_f2, ab_f3, List.getElem?_cons_zero, List.getElem?_cons_succ, List.set_cons_zero, List.set_cons_succ, List.length_cons, List.length_nil, List.size_toArray, List.head?_cons, List.tail_cons, Option.map_some, cond_true, cond_false, true_and, and_true, false_and, and_false, not_true_eq_false, not_false_eq_true, true_imp_iff, false_imp_iff, if_true, if_false, ite_true, ite_false, ↓reduceIte, Nat.reduceAdd, Nat.reduceEqDiff, Nat.reduceLeDiff, Nat.reduceLT, Nat.reduceBEq, Nat.reduceBNe, Int.reduceAdd, Int.reduceNeg, Int.reduceSub, Int.reduceLE, Int.reduceLT, Int.reduceToNat, Int.reduceEq, Int.reduceMul, Int.cast_ofNat_Int, Nat.zero_add, Nat.add_zero, Nat.le_refl, eq_self, ne_eq, reduceCtorEq, or_true, true_or, or_false, false_or, Bool.or_true, Bool.or_false, Bool.true_or, Bool.false_or, Nat.zero_le, Int.le_refl, Int.ofNat_zero, Int.ofNat_one, Bool.false_eq_true]
      try simp only [ab_in]
      repeat (refine ⟨by first | omega | (refine ⟨by decide, by omega⟩), ?_⟩)
      intro g hg _
      have hag : ¬ a = g := by rintro rfl; rw [hg] at D; cases D
      have hsg0 : ¬ N.1 = g := by intro e; rw [e, hg] at D0; cases D0
      have hsn : ∀ c, ab_sim (ab_up h3 g c) a = some (N, M) := fun c => sim_of (sim_new g1 hg)
      have fo2 := fo.up2 (a := g) (c := .inr (.inl (0, 7, rw7 M))) (Or.inr (sim_freshF fo hg))
      have i0 := same_c (g := g) (w4 := w4) (w5 := w5) (k := M.n + 1) (z := 8 * M.n + 7) hV hA hB hS (by omega) fo2 (ab_up_eq _ _ _) (hK _ fo2) 7 0 (by omega) (by omega)
      have b1 := onS_r 0 hA.1
      have b2 := onS_r 1 hA.1
      clear r0 r1 r2 mb hsl0 hS hA hB fo2 hK
      unfold rw7 at i0
      refine hV (fun p => p == 287) 80 _ _ _ _ _ _ ?_
      simp only [ab_up_up, ab_up_ap, hag, hsg0, hsn, D, D0, bI_in, bI_0, bI_1, bI_t, bI_f, bI_01, Tr_X4_on, Tr_X4_covered_, Tr_X4_rot, ae_aload_n, ae_arraylength, ae_astore_n, ae_bipush, ae_dup, ae_getfield, ae_iastore, ae_iconst, ae_invokevirtual, ae_istore_n, dX4_isSame_231, dX4_isSame_232, dX4_isSame_233, dX4_isSame_234, dX4_isSame_237, dX4_isSame_238, dX4_isSame_239, dX4_isSame_240, dX4_isSame_241, dX4_isSame_244, dX4_isSame_245, dX4_isSame_246, dX4_isSame_247, dX4_isSame_248, dX4_isSame_249, dX4_isSame_250, dX4_isSame_253, dX4_isSame_254, dX4_isSame_255, dX4_isSame_256, dX4_isSame_257, dX4_isSame_258, dX4_isSame_261, dX4_isSame_262, dX4_isSame_263, dX4_isSame_264, dX4_isSame_265, dX4_isSame_268, dX4_isSame_269, dX4_isSame_270, dX4_isSame_271, dX4_isSame_272, dX4_isSame_275, dX4_isSame_276, dX4_isSame_277, dX4_isSame_279, dX4_isSame_280, dX4_isSame_283, dX4_isSame_284, dX4_isSame_285, dX4_isSame_286, tbX4_g27, tbX4_g46, tbX4_g9, ca_X4_isSame_43, ca_X4_isSame_35, ca_X4_isSame_61, ca_X4_isSame_67, ca_X4_isSame_70, ca_X4_isSame_49, ca_X4_isSame_73, ca_X4_isSame_77, ca_X4_isSame_80, ca_X4_isSame_82, ca_X4_isSame_86, ab_wp0, ab_wps, ab_stp, ab_g, ab_st, ab_k2, ab_cl, ab_pop, ab_sz, ab_2, ab_ret, ab_f4, ab_tg, ab_I, ab_II, ab_A, ab_Rf, ab_VR, ab_IR, ab_VIR, ab_1, ab_LL, ab_DD, ab_ob, ab_pr, ab_qr, ab_ln, ab_so, ab_vI, ab_vA, ab_vD, ab_vL, ab_v2, ab_c, ab_fit, ab_rv, ab_tsw, ab_lsw, ab_up_eq, Fin.isValue, ab_f0, ab_f1, ab_f2, ab_f3, List.getElem?_cons_zero, List.getElem?_cons_succ, List.set_cons_zero, List.set_cons_succ, List.length_cons, List.length_nil, List.size_toArray, List.head?_cons, List.tail_cons, Option.map_some, cond_true, cond_false, true_and, and_true, false_and, and_false, not_true_eq_false, not_false_eq_true, true_imp_iff, false_imp_iff, if_true, if_false, ite_true, ite_false, ↓reduceIte, Nat.reduceAdd, Nat.reduceEqDiff, Nat.reduceLeDiff, Nat.reduceLT, Nat.reduceBEq, Nat.reduceBNe, Int.reduceAdd, Int.reduceNeg, Int.reduceSub, Int.reduceLE, Int.reduceLT, Int.reduceToNat, Int.reduceEq, Int.reduceMul, Int.cast_ofNat_Int, Nat.zero_add, Nat.add_zero, Nat.le_refl, eq_self, ne_eq, reduceCtorEq, or_true, true_or, or_false, false_or, Bool.or_true, Bool.or_false, Bool.true_or, Bool.false_or, Nat.zero_le, Int.le_refl, Int.ofNat_zero, Int.ofNat_one, Bool.false_eq_true]
      try simp only [ab_in]
      (repeat' (first | intro _ | refine And.intro ?_ ?_)) <;> (first | exact i0 | exact rfl | contradiction | omega | (exfalso; omega))
    have st := same_k hV hA hB hS (fun w3 w4 w5 h3 fo => by
      have i1 := same_x hV hA hB hS (h3 := h3) (k := M.n) (z := 8 * M.n) (by omega) fo (w4 := w4) (w5 := w5) (fun w => last w4 w5 h3 fo w) 12 0 w3 (by omega) (by omega)
      have g1 := sim_fo hA fo
      have g2 := sr_fo hB fo
      obtain ⟨mb, D, nd, D0, D1, D2, r0, r1, r2⟩ := id g1
      have hsl0 := mb.1
      have hn0 := mb.2.2.2.1
      dsimp only at D D0 D1 D2 r0 r1 r2 hsl0 hn0
      have hsg := sim_of g1
      have hrg := sr_of g2
      have E := g2.1
      dsimp only at E
      have hle : (M.n : Int) ≤ (M.n : Int) := Int.le_refl _
      clear r0 r1 r2 mb hsl0 hS hA hB last
      refine hV (fun p => p == 141) 80 _ _ _ _ _ _ ?_
      simp only [D, D0, hle, bI_in, bI_0, bI_1, bI_t, bI_f, bI_01, ae_aaload, ae_aload, ae_aload_n, ae_arraylength, ae_astore, ae_astore_n, ae_bipush, ae_dup, ae_getfield, ae_goto, ae_iaload, ae_iastore, ae_iconst, ae_if_icmp, ae_iinc, ae_iload, ae_iload_n, ae_invokevirtual, ae_ireturn, ae_istore, ae_istore_n, ae_newarray, dX4_isSame_2, dX4_isSame_3, dX4_isSame_4, dX4_isSame_7, dX4_isSame_8, dX4_isSame_11, dX4_isSame_12, dX4_isSame_15, dX4_isSame_16, dX4_isSame_17, dX4_isSame_18, dX4_isSame_20, dX4_isSame_22, dX4_isSame_23, dX4_isSame_24, dX4_isSame_25, dX4_isSame_26, dX4_isSame_27, dX4_isSame_28, dX4_isSame_29, dX4_isSame_30, dX4_isSame_31, dX4_isSame_32, dX4_isSame_33, dX4_isSame_34, dX4_isSame_35, dX4_isSame_36, dX4_isSame_37, dX4_isSame_38, dX4_isSame_39, dX4_isSame_40, dX4_isSame_41, dX4_isSame_42, dX4_isSame_43, dX4_isSame_44, dX4_isSame_45, dX4_isSame_46, dX4_isSame_47, dX4_isSame_48, dX4_isSame_49, dX4_isSame_50, dX4_isSame_51, dX4_isSame_52, dX4_isSame_53, dX4_isSame_54, dX4_isSame_55, dX4_isSame_56, dX4_isSame_57, dX4_isSame_58, dX4_isSame_59, dX4_isSame_61, dX4_isSame_62, dX4_isSame_63, dX4_isSame_64, dX4_isSame_65, dX4_isSame_68, dX4_isSame_69, dX4_isSame_70, dX4_isSame_73, dX4_isSame_76, dX4_isSame_77, dX4_isSame_78, dX4_isSame_79, dX4_isSame_81, dX4_isSame_82, dX4_isSame_83, dX4_isSame_84, dX4_isSame_85, dX4_isSame_88, dX4_isSame_89, dX4_isSame_90, dX4_isSame_93, dX4_isSame_96, dX4_isSame_97, dX4_isSame_98, dX4_isSame_100, dX4_isSame_101, dX4_isSame_103, dX4_isSame_105, dX4_isSame_107, dX4_isSame_110, dX4_isSame_111, dX4_isSame_112, dX4_isSame_114, dX4_isSame_117, dX4_isSame_119, dX4_isSame_121, dX4_isSame_122, dX4_isSame_125, dX4_isSame_126, dX4_isSame_127, dX4_isSame_130, dX4_isSame_133, dX4_isSame_136, dX4_isSame_139, dX4_isSame_140, tbX4_g9, ca_X4_isSame_43, ca_X4_isSame_35, ca_X4_isSame_61, ca_X4_isSame_67, ca_X4_isSame_70, ca_X4_isSame_49, ca_X4_isSame_73, ca_X4_isSame_77, ca_X4_isSame_80, ca_X4_isSame_82, ca_X4_isSame_86, ab_wp0, ab_wps, ab_stp, ab_g, ab_st, ab_k2, ab_cl, ab_pop, ab_sz, ab_2, ab_ret, ab_f4, ab_tg, ab_I, ab_II, ab_A, ab_Rf, ab_VR, ab_IR, ab_VIR, ab_1, ab_LL, ab_DD, ab_ob, ab_pr, ab_qr, ab_ln, ab_so, ab_vI, ab_vA, ab_vD, ab_vL, ab_v2, ab_c, ab_fit, ab_rv, ab_tsw, ab_lsw, ab_up_eq, Fin.isValue, ab_f0, ab_f1, ab_f2, ab_f3, List.getElem?_cons_zero, List.getElem?_cons_succ, List.set_cons_zero, List.set_cons_succ, List.length_cons, List.length_nil, List.size_toArray, List.head?_cons, List.tail_cons, Option.map_some, cond_true, cond_false, true_and, and_true, false_and, and_false, not_true_eq_false, not_false_eq_true, true_imp_iff, false_imp_iff, if_true, if_false, ite_true, ite_false, ↓reduceIte, Nat.reduceAdd, Nat.reduceEqDiff, Nat.reduceLeDiff, Nat.reduceLT, Nat.reduceBEq, Nat.reduceBNe, Int.reduceAdd, Int.reduceNeg, Int.reduceSub, Int.reduceLE, Int.reduceLT, Int.reduceToNat, Int.reduceEq, Int.reduceMul, Int.cast_ofNat_Int, Nat.zero_add, Nat.add_zero, Nat.le_refl, eq_self, ne_eq, reduceCtorEq, or_true, true_or, or_false, false_or, Bool.or_true, Bool.or_false, Bool.true_or, Bool.false_or, Nat.zero_le, Int.le_refl, Int.ofNat_zero, Int.ofNat_one, Bool.false_eq_true]
      try simp only [ab_in]
      (repeat' (first | intro _ | refine And.intro ?_ ?_)) <;> (first | exact i1 | contradiction | omega | (exfalso; omega))) M.n 0 none none none h (by omega) ab_fo.rf
    clear hS hA hB last
    refine hV (fun p => p == 2) 80 _ _ _ _ _ _ ?_
    simp only [bI_in, bI_0, bI_1, bI_t, bI_f, bI_01, ae_iconst, ae_istore_n, dX4_isSame_0, dX4_isSame_1, ca_X4_isSame_43, ca_X4_isSame_35, ca_X4_isSame_61, ca_X4_isSame_67, ca_X4_isSame_70, ca_X4_isSame_49, ca_X4_isSame_73, ca_X4_isSame_77, ca_X4_isSame_80, ca_X4_isSame_82, ca_X4_isSame_86, ab_wp0, ab_wps, ab_stp, ab_g, ab_st, ab_k2, ab_cl, ab_pop, ab_sz, ab_2, ab_ret, ab_f4, ab_tg, ab_I, ab_II, ab_A, ab_Rf, ab_VR, ab_IR, ab_VIR, ab_1, ab_LL, ab_DD, ab_ob, ab_pr, ab_qr, ab_ln, ab_so, ab_vI, ab_vA, ab_vD, ab_vL, ab_v2, ab_c, ab_fit, ab_rv, ab_tsw, ab_lsw, ab_up_eq, Fin.isValue, ab_f0, ab_f1, ab_f2, ab_f3, List.getElem?_cons_zero, List.getElem?_cons_succ, List.set_cons_zero, List.set_cons_succ, List.length_cons, List.length_nil, List.size_toArray, List.head?_cons, List.tail_cons, Option.map_some, cond_true, cond_false, true_and, and_true, false_and, and_false, not_true_eq_false, not_false_eq_true, true_imp_iff, false_imp_iff, if_true, if_false, ite_true, ite_false, ↓reduceIte, Nat.reduceAdd, Nat.reduceEqDiff, Nat.reduceLeDiff, Nat.reduceLT, Nat.reduceBEq, Nat.reduceBNe, Int.reduceAdd, Int.reduceNeg, Int.reduceSub, Int.reduceLE, Int.reduceLT, Int.reduceToNat, Int.reduceEq, Int.reduceMul, Int.cast_ofNat_Int, Nat.zero_add, Nat.add_zero, Nat.le_refl, eq_self, ne_eq, reduceCtorEq, or_true, true_or, or_false, false_or, Bool.or_true, Bool.or_false, Bool.true_or, Bool.false_or, Nat.zero_le, Int.le_refl, Int.ofNat_zero, Int.ofNat_one, Bool.false_eq_true]
    try simp only [ab_in]
    (repeat' (first | intro _ | refine And.intro ?_ ?_)) <;> (first | exact st | contradiction | omega | (exfalso; omega))
  · exact hT.elim
set_option maxRecDepth 100000 in
theorem con_X4_isSame (l : Launch) (D : va_G) (ty : Nat → ClassId) (base : Nat) : ab_Con l D vwCl ty lw_ts base lw_wd yX4_isSame cX4_isSame 6 (some .boolean) 5 114 201 1607 Tr_X4_isSame :=
  ab_con_of (own := RX4) (rt := 2) (tb := tbX4) (ini := false) (ca := ca_X4_isSame) (by decide +kernel) rfl (fun h => by cases h) rfl lw_wd_ok wtbX4 lw_ar cm_X4_isSame
    (fun p e R s m args below meth c K hcx => by
      obtain ⟨hx, hb, hml, hown, hF, rfl⟩ := hcx
      exact ab_lk_all (ab_all_c (ab_tc_V hx hb hml hown lw_wd_ok hF ⟨rfl, rfl⟩ (con_X4_hold l D ty base) rfl (lw_wi (by decide +kernel) (by decide +kernel)) (lw_wi (by decide +kernel) (by decide +kernel)) (lw_wi (by decide +kernel) (by decide +kernel)) (lw_wi (by decide +kernel) (by decide +kernel)) (lw_wi (by decide +kernel) (by decide +kernel)) (by decide +kernel) ⟨by decide, by decide⟩) (ab_all_c (ab_tc_V hx hb hml hown lw_wd_ok hF ⟨rfl, rfl⟩ (con_X4_upon l D ty base) rfl (lw_wi (by decide +kernel) (by decide +kernel)) (lw_wi (by decide +kernel) (by decide +kernel)) (lw_wi (by decide +kernel) (by decide +kernel)) (lw_wi (by decide +kernel) (by decide +kernel)) (lw_wi (by decide +kernel) (by decide +kernel)) (by decide +kernel) ⟨by decide, by decide⟩) (ab_all_c (ab_tc_V hx hb hml hown lw_wd_ok hF ⟨rfl, rfl⟩ (con_X3_slate l D ty base) rfl (lw_wi (by decide +kernel) (by decide +kernel)) (lw_wi (by decide +kernel) (by decide +kernel)) (lw_wi (by decide +kernel) (by decide +kernel)) (lw_wi (by decide +kernel) (by decide +kernel)) (lw_wi (by decide +kernel) (by decide +kernel)) (by decide +kernel) ⟨by decide, by decide⟩) (ab_all_c (ab_tc_V hx hb hml hown lw_wd_ok hF ⟨rfl, rfl⟩ (con_X3_place l D ty base) rfl (lw_wi (by decide +kernel) (by decide +kernel)) (lw_wi (by decide +kernel) (by decide +kernel)) (lw_wi (by decide +kernel) (by decide +kernel)) (lw_wi (by decide +kernel) (by decide +kernel)) (lw_wi (by decide +kernel) (by decide +kernel)) (by decide +kernel) ⟨by decide, by decide⟩) (ab_all_c (ab_tc_V hx hb hml hown lw_wd_ok hF ⟨rfl, rfl⟩ (con_X4_at l D ty base) rfl (lw_wi (by decide +kernel) (by decide +kernel)) (lw_wi (by decide +kernel) (by decide +kernel)) (lw_wi (by decide +kernel) (by decide +kernel)) (lw_wi (by decide +kernel) (by decide +kernel)) (lw_wi (by decide +kernel) (by decide +kernel)) (by decide +kernel) ⟨by decide, by decide⟩) (ab_all_c (ab_tc_V hx hb hml hown lw_wd_ok hF ⟨rfl, rfl⟩ (con_X4_covered l D ty base) rfl (lw_wi (by decide +kernel) (by decide +kernel)) (lw_wi (by decide +kernel) (by decide +kernel)) (lw_wi (by decide +kernel) (by decide +kernel)) (lw_wi (by decide +kernel) (by decide +kernel)) (lw_wi (by decide +kernel) (by decide +kernel)) (by decide +kernel) ⟨by decide, by decide⟩) (ab_all_c (ab_tc_V hx hb hml hown lw_wd_ok hF ⟨rfl, rfl⟩ (con_X4_on l D ty base) rfl (lw_wi (by decide +kernel) (by decide +kernel)) (lw_wi (by decide +kernel) (by decide +kernel)) (lw_wi (by decide +kernel) (by decide +kernel)) (lw_wi (by decide +kernel) (by decide +kernel)) (lw_wi (by decide +kernel) (by decide +kernel)) (by decide +kernel) ⟨by decide, by decide⟩) (ab_all_c (ab_tc_V hx hb hml hown lw_wd_ok hF ⟨rfl, rfl⟩ (con_X4_covered_ l D ty base) rfl (lw_wi (by decide +kernel) (by decide +kernel)) (lw_wi (by decide +kernel) (by decide +kernel)) (lw_wi (by decide +kernel) (by decide +kernel)) (lw_wi (by decide +kernel) (by decide +kernel)) (lw_wi (by decide +kernel) (by decide +kernel)) (by decide +kernel) ⟨by decide, by decide⟩) (ab_all_c (ab_tc_V hx hb hml hown lw_wd_ok hF ⟨rfl, rfl⟩ (con_X4_rot l D ty base) rfl (lw_wi (by decide +kernel) (by decide +kernel)) (lw_wi (by decide +kernel) (by decide +kernel)) (lw_wi (by decide +kernel) (by decide +kernel)) (lw_wi (by decide +kernel) (by decide +kernel)) (lw_wi (by decide +kernel) (by decide +kernel)) (by decide +kernel) ⟨by decide, by decide⟩) (ab_all_c (ab_tc_V hx hb hml hown lw_wd_ok hF ⟨rfl, rfl⟩ (con_X3_count l D ty base) rfl (lw_wi (by decide +kernel) (by decide +kernel)) (lw_wi (by decide +kernel) (by decide +kernel)) (lw_wi (by decide +kernel) (by decide +kernel)) (lw_wi (by decide +kernel) (by decide +kernel)) (lw_wi (by decide +kernel) (by decide +kernel)) (by decide +kernel) ⟨by decide, by decide⟩) (ab_all_c (ab_tc_V hx hb hml hown lw_wd_ok hF ⟨rfl, rfl⟩ (con_X3_share l D ty base) rfl (lw_wi (by decide +kernel) (by decide +kernel)) (lw_wi (by decide +kernel) (by decide +kernel)) (lw_wi (by decide +kernel) (by decide +kernel)) (lw_wi (by decide +kernel) (by decide +kernel)) (lw_wi (by decide +kernel) (by decide +kernel)) (by decide +kernel) ⟨by decide, by decide⟩) (ab_all_n)))))))))))))
    (by intro as h K ht; unfold Tr_X4_isSame at ht; split at ht <;> first | exact ht.elim | exact Nat.le_of_ble_eq_true rfl) (sem_X4_isSame base)
