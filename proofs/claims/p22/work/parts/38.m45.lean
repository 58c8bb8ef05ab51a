/-! ===== the law's own roof: a storm ===== -/
theorem sumR_last (f : Int → Int) : ∀ (n : Nat) (x : Int), sumR f (n + 1) x = sumR f n x + f (x + n) := by
  intro n
  induction n with
  | zero => intro x; simp [sumR]
  | succ n ih =>
    intro x
    have e : sumR f (n + 1 + 1) x = f x + sumR f (n + 1) (x + 1) := rfl
    rw [e, ih (x + 1)]
    have e2 : sumR f (n + 1) x = f x + sumR f n (x + 1) := rfl
    rw [e2, show x + 1 + (n : Int) = x + ((n + 1 : Nat) : Int) by omega]
    omega
theorem anyR_last (p : Int → Bool) : ∀ (n : Nat) (x : Int), anyR p (n + 1) x = (anyR p n x || p (x + n)) := by
  intro n
  induction n with
  | zero => intro x; simp [anyR]
  | succ n ih =>
    intro x
    have e : anyR p (n + 1 + 1) x = (p x || anyR p (n + 1) (x + 1)) := rfl
    rw [e, ih (x + 1)]
    have e2 : anyR p (n + 1) x = (p x || anyR p n (x + 1)) := rfl
    rw [e2, show x + 1 + (n : Int) = x + ((n + 1 : Nat) : Int) by omega, Bool.or_assoc]
theorem sumR_add (f g : Int → Int) : ∀ (n : Nat) (x : Int), sumR f n x + sumR g n x = sumR (fun i => f i + g i) n x := by
  intro n
  induction n with
  | zero => intro x; rfl
  | succ n ih => intro x; have := ih (x + 1); simp only [sumR]; omega
theorem sumR_any {g : Int → Bool} : ∀ (n : Nat) (x : Int), anyR g n x = true → 1 ≤ sumR (fun i => bI (g i)) n x := by
  intro n
  induction n with
  | zero => intro x h; cases h
  | succ n ih =>
    intro x h
    have h2 := sumR_rb (g := g) n (x + 1)
    simp only [anyR] at h
    simp only [sumR]
    cases hg : g x
    · rw [hg, Bool.false_or] at h; have := ih _ h; rw [bI_f]; omega
    · rw [bI_t]; omega
theorem sumR_none {g : Int → Bool} : ∀ (n : Nat) (x : Int), anyR g n x = false → sumR (fun i => bI (g i)) n x = 0 := by
  intro n
  induction n with
  | zero => intro x _; rfl
  | succ n ih =>
    intro x h
    simp only [anyR, Bool.or_eq_false_iff] at h
    simp only [sumR, h.1, bI_f, ih _ h.2]
    rfl
def goesS (M : SM) (force right k : Int) : Bool := decide (M.sl k 5 = 1) && decide (holdS M (M.sl k) < liftS M (M.sl k) force right)
def offG (g : Int → Bool) (x : Nat) (s : Int → Int → Int) : Int → Int → Int := fun k => if 0 ≤ k ∧ k < (x : Int) ∧ g k = true then ab_uf (s k) 5 0 else s k
def offS (M : SM) (g : Int → Bool) (x : Nat) : SM := (M.n, offG g x M.sl, M.rt, M.dy, M.day, M.tk + sumR (fun k => bI (g k)) x 0)
def stormL (force right : Int) : Nat → SM → SM
  | 0, M => M
  | n + 1, M => bif anyR (goesS M force right) M.n 0 then stormL force right n (offS M (goesS M force right) M.n) else M
def stormS (M : SM) (force right : Int) : SM := if force < 1 then M else stormL force right 61 M
theorem off_on {M : SM} {g : Int → Bool} (hg : ∀ k, g k = true → M.sl k 5 = 1) : onS (offS M g M.n) 0 + sumR (fun k => bI (g k)) M.n 0 = onS M 0 := by
  show sumR (fun k => bI (decide (offG g M.n M.sl k 5 = 1) && (decide ((0 : Int) = 0) || decide (offG g M.n M.sl k 4 = 1)))) M.n 0 + _ = sumR (fun k => bI (decide (M.sl k 5 = 1) && (decide ((0 : Int) = 0) || decide (M.sl k 4 = 1)))) M.n 0
  rw [sumR_add]
  refine sumR_congr _ _ (fun j h0 h1 => ?_)
  by_cases hj : g j = true
  · have hv : offG g M.n M.sl j = ab_uf (M.sl j) 5 0 := if_pos ⟨h0, by omega, hj⟩
    have h5 := hg j hj
    simp [hv, h5, hj, ab_uf, bI]
  · have hf : g j = false := by simpa using hj
    have hv : offG g M.n M.sl j = M.sl j := if_neg (fun q => hj q.2.2)
    simp [hv, hf, bI]
theorem off_none {M : SM} {g : Int → Bool} (hg : anyR g M.n 0 = false) : offS M g M.n = M := by
  have e1 : offG g M.n M.sl = M.sl := by
    funext k
    simp only [offG]
    rw [if_neg]
    rintro ⟨h0, h1, h2⟩
    have : anyR g M.n 0 = true := (anyR_iff _ _).mpr ⟨k, h0, by omega, h2⟩
    rw [hg] at this
    cases this
  obtain ⟨n, sl, rt, dy, day, tk⟩ := M
  simp only [offS]
  rw [sumR_none _ _ hg, Int.add_zero]
  exact congrArg (fun q => ((n, q, rt, dy, day, tk) : SM)) e1
theorem goes_on {M : SM} {force right : Int} : ∀ k, goesS M force right k = true → M.sl k 5 = 1 := fun k h => by
  unfold goesS at h
  rw [Bool.and_eq_true] at h
  exact of_decide_eq_true h.1
theorem off_s {M : SM} {g : Int → Bool} {x : Nat} (hg : g x = true) : offS M g (x + 1) = ((offS M g x).s_sl (ab_uf (offS M g x).sl (x : Int) (ab_uf (M.sl x) 5 0))).s_tk ((offS M g x).tk + 1) := by
  have e1 : offG g (x + 1) M.sl = ab_uf (offG g x M.sl) (x : Int) (ab_uf (M.sl x) 5 0) := by
    funext k
    simp only [offG, ab_uf]
    by_cases hk : k = (x : Int)
    · subst hk; rw [if_pos ⟨by omega, by omega, hg⟩, if_pos rfl]
    · rw [if_neg hk]
      by_cases h2 : 0 ≤ k ∧ k < (x : Int) ∧ g k = true
      · rw [if_pos h2, if_pos ⟨h2.1, by omega, h2.2.2⟩]
      · rw [if_neg h2, if_neg (fun q => h2 ⟨q.1, by omega, q.2.2⟩)]
  have e2 : sumR (fun k => bI (g k)) (x + 1) 0 = sumR (fun k => bI (g k)) x 0 + 1 := by rw [sumR_last, Int.zero_add, hg]; rfl
  simp only [offS]
  rw [e1, e2, Int.add_assoc]
theorem off_n {M : SM} {g : Int → Bool} {x : Nat} (hg : g x = false) : offS M g (x + 1) = offS M g x := by
  have e1 : offG g (x + 1) M.sl = offG g x M.sl := by
    funext k
    simp only [offG]
    by_cases h2 : 0 ≤ k ∧ k < (x : Int) ∧ g k = true
    · rw [if_pos h2, if_pos ⟨h2.1, by omega, h2.2.2⟩]
    · rw [if_neg h2, if_neg]
      rintro ⟨q1, q2, q3⟩
      refine h2 ⟨q1, ?_, q3⟩
      have : ¬ k = (x : Int) := by rintro rfl; rw [hg] at q3; cases q3
      omega
  have e2 : sumR (fun k => bI (g k)) (x + 1) 0 = sumR (fun k => bI (g k)) x 0 := by rw [sumR_last, Int.zero_add, hg, bI_f]; omega
  simp only [offS]
  rw [e1, e2]
theorem off_at {M : SM} {g : Int → Bool} {x : Nat} : (offS M g x).sl (x : Int) = M.sl x := by
  show offG g x M.sl x = _
  simp only [offG]
  rw [if_neg (by omega)]
theorem off_0 {M : SM} {g : Int → Bool} : offS M g 0 = M := by
  have e1 : offG g 0 M.sl = M.sl := by
    funext k
    simp only [offG]
    rw [if_neg (by omega)]
  obtain ⟨n, sl, rt, dy, day, tk⟩ := M
  simp only [offS, sumR]
  rw [Int.add_zero]
  exact congrArg (fun q => ((n, q, rt, dy, day, tk) : SM)) e1
def gLs (g : Int → Bool) (x : Nat) : Int → Int := fun i => if 0 ≤ i ∧ i < (x : Int) then bI (g i) else 0
theorem gLs_s (g : Int → Bool) (x : Nat) : ab_uf (gLs g x) (x : Int) (bI (g x)) = gLs g (x + 1) := by
  funext i
  simp only [gLs, ab_uf]
  by_cases hi : i = (x : Int)
  · subst hi; rw [if_pos rfl, if_pos (by omega)]
  · rw [if_neg hi]
    by_cases h2 : 0 ≤ i ∧ i < (x : Int)
    · rw [if_pos h2, if_pos (by omega)]
    · rw [if_neg h2, if_neg (by omega)]
theorem gLs_0 (g : Int → Bool) : gLs g 0 = fun _ => 0 := by
  funext i
  simp only [gLs]
  rw [if_neg (by omega)]
theorem ab_fo.up2 {h h' : AH} {L : Nat → Prop} {a : Nat} {c : AC} (hf : ab_fo h h' L) (ha : L a ∨ h a = none) : ab_fo h (ab_up h' a c) L := by
  intro b hb hn
  rw [ab_up_ap]
  by_cases hba : b = a
  · subst hba
    rcases ha with ha | ha
    · exact absurd ha hb
    · exact absurd ha hn
  · rw [if_neg hba]; exact hf b hb hn
theorem sim_fresh {h h1 : AH} {a g : Nat} {P : SN × SM} (h2 : simAt h1 a P) (hf : ab_fo h h1 (simIn P.1 a)) (hg : h1 g = none) : h g = none := by
  by_cases hs : simIn P.1 a g
  · exact absurd hg (sim_nn h2 hs)
  · cases hc : h g with
    | none => rfl
    | some c => rw [hf g hs (by rw [hc]; exact fun q => by cases q), hc] at hg; cases hg
theorem sim_put {h : AH} {a g : Nat} {P : SN × SM} {t n : Nat} {f : Int → Int} {c : AC} (h1 : simAt h a P) (hg : h g = some (.inr (.inl (t, n, f)))) (ht : ¬ (t = 0 ∧ (n = 6 ∨ n = 8 ∨ n = 4))) : simAt (ab_up h g c) a P :=
  sim_keep h1 (fun b hb => by
    rw [ab_up_ap, if_neg]
    rintro rfl
    rcases sim_kind h1 hb with ⟨fs, e⟩ | ⟨n', f', e⟩ | ⟨w, f', e, hw⟩
    · cases hg.symm.trans e
    · cases hg.symm.trans e
    · have := hg.symm.trans e
      simp only [Option.some.injEq, Sum.inr.injEq, Sum.inl.injEq, Prod.mk.injEq] at this
      exact ht ⟨this.1, by rw [this.2.1]; exact hw⟩)
def ab_Hv (tb : ATb) (ts : List Nat) (base : Nat) (cc : ByteArray) (ca : Nat → Option ACS) (rt MC MS : Nat) (K : Option AV → AH → Prop) (V : AVt) : Prop := ∀ (stop : Nat → Bool) (n pc : Nat) (ls : ALs) (st : List AV) (h : AH) (k z : Nat), ab_step tb ts base cc ca rt MC MS K (ab_wp (ab_step tb ts base cc ca rt MC MS K) stop V n) pc ls st h k z → V pc ls st h k z
theorem holdS_r {M : SM} {f : Int → Int} (mb : MB M) (hf : slB f) : 0 ≤ holdS M f ∧ holdS M f ≤ 409 := by
  obtain ⟨a1, a2, a3, a4, a5⟩ := hf
  have hu := sumR_rb (g := fun k => meetsF (M.sl k) (f 0 + 1) (f 1) (f 2)) M.n 0
  have hn : M.n ≤ 200 := mb.2.2.2.1
  have e : uponS M f = sumR (fun k => bI (meetsF (M.sl k) (f 0 + 1) (f 1) (f 2))) M.n 0 := rfl
  have h3 : 0 ≤ eachL M (f 0) (f 2).toNat (f 1) 3 * f 3 ∧ eachL M (f 0) (f 2).toNat (f 1) 3 * f 3 ≤ 9 := by
    rcases eachL_r (M := M) (row := f 0) (f 2).toNat (f 1) 3 (Or.inr rfl) with h | h <;> rw [h] <;> omega
  unfold holdS
  split
  · rw [Int.tdiv_eq_ediv_of_nonneg (by omega)]; omega
  · omega
theorem liftS_r {M : SM} {f : Int → Int} {force right : Int} (mb : MB M) (hf : slB f) (h1 : 0 ≤ force ∧ force ≤ 20) : -400 ≤ liftS M f force right ∧ liftS M f force right ≤ 27 := by
  obtain ⟨a1, -⟩ := hf
  have hu := sumR_rb (g := fun k => sideF (M.sl k) f right) M.n 0
  have hn : M.n ≤ 200 := mb.2.2.2.1
  unfold liftS
  omega
theorem slB_5 {f : Int → Int} (h : slB f) : 0 ≤ f 5 ∧ f 5 ≤ 1 := by
  obtain ⟨-, -, -, -, a5⟩ := h
  omega
noncomputable def Tr_X4_storm : ATr := fun as h K => match as with
  | [.inr (.inl (some a)), .inl force, .inl right] => ab_so (ab_sim h a) fun P => ((0 ≤ force ∧ force ≤ 20) ∧ (right = 0 ∨ right = 1) ∧ onS P.2 0 ≤ 60 ∧ P.2.tk ≤ 99000) ∧ ∀ h' r, ab_sim h' a = some (P.1, stormS P.2 force right) → ab_fo h h' (simIn P.1 a) → K (some (.inl r)) h'
  | _ => False
theorem mo_X4_storm : ab_mo Tr_X4_storm := by
  intro as h K K' hk ht
  unfold Tr_X4_storm at ht ⊢
  split at ht
  · exact ab_so_mo (fun _ q => ⟨q.1, fun h' r e1 e2 => hk _ _ (q.2 h' r e1 e2)⟩) ht
  · exact ht.elim
def ca_X4_storm : Nat → Option ACS := ab_lk [(39, (0, 4, 4, 0, 0, Tr_X4_lift)), (43, (0, 4, 2, 0, 0, Tr_X4_hold))]
theorem ca_X4_storm_39 : ca_X4_storm 39 = some (0, 4, 4, 0, 0, Tr_X4_lift) := rfl
theorem ca_X4_storm_43 : ca_X4_storm 43 = some (0, 4, 2, 0, 0, Tr_X4_hold) := rfl
theorem cm_X4_storm : ∀ i q, ca_X4_storm i = some q → ab_moq i q := ab_lk_all (ab_all_c mo_X4_lift (ab_all_c mo_X4_hold (ab_all_n)))
set_option maxRecDepth 100000 in
set_option maxHeartbeats 4000000 in
theorem storm_l2 {base : Nat} {K : Option AV → AH → Prop} {V : AVt} {h : AH} {a g : Nat} {N : SN} {M1 : SM} {force right rd : Int} {k z : Nat} (hV : ab_Hv tbX4 lw_ts base cX4_storm ca_X4_storm 1 61 12200 K V) (hg0 : h g = none)
    (hE : ∀ h2, h2 g = some (.inr (.inl (1, M1.n, gLs (goesS M1 force right) M1.n))) → simAt h2 a (N, offS M1 (goesS M1 force right) M1.n) → ab_fo h h2 (simIn N a) → V 104 [some (.inr (.inl (some a))), some (.inl force), some (.inl right), some (.inl rd), some (.inl (bI (anyR (goesS M1 force right) M1.n 0))), some (.inr (.inl (some g))), some (.inl (M1.n : Int))] [] h2 k z) :
    ∀ (m x : Nat) (h2 : AH), x + m = M1.n → M1.tk ≤ 99060 → h2 g = some (.inr (.inl (1, M1.n, gLs (goesS M1 force right) M1.n))) → simAt h2 a (N, offS M1 (goesS M1 force right) x) → ab_fo h h2 (simIn N a) → V 104 [some (.inr (.inl (some a))), some (.inl force), some (.inl right), some (.inl rd), some (.inl (bI (anyR (goesS M1 force right) x 0))), some (.inr (.inl (some g))), some (.inl (x : Int))] [] h2 k z := by
  intro m
  induction m with
  | zero =>
    intro x h2 hx htk hg g1 g2
    have hx2 : x = M1.n := by omega
    subst hx2
    exact hE h2 hg g1 g2
  | succ m ihm =>
    intro x h2 hx htk hg g1 g2
    obtain ⟨mb, D, nd, D0, D1, D2, r0, r1, r2⟩ := id g1
    have hsl0 := mb.1
    have hn0 := mb.2.2.2.1
    dsimp only at D D0 D1 D2 r0 r1 r2 hsl0 hn0
    have hlt : ¬ (M1.n : Int) ≤ (x : Int) := by omega
    have hgx : gLs (goesS M1 force right) M1.n (x : Int) = bI (goesS M1 force right x) := by simp only [gLs]; rw [if_pos (by omega)]
    have ex : ((x + 1 : Nat) : Int) = (x : Int) + 1 := by omega
    obtain ⟨p, hp, hpc⟩ := r0.1 x (by omega) (by show (x : Int) < (M1.n : Int); omega)
    have el := anyR_last (goesS M1 force right) x 0
    rw [Int.zero_add] at el
    have hon0 : (offS M1 (goesS M1 force right) x).n = M1.n := rfl
    rw [hon0] at D0
    cases hb : goesS M1 force right x
    · have i0 := ihm (x + 1) h2 (by omega) htk hg (by rw [off_n hb]; exact g1) g2
      rw [el, hb, Bool.or_false, ex] at i0
      rw [hb, bI_f] at hgx
      clear r0 r1 r2 mb hsl0 ihm hE
      refine hV (fun p => bif p == 12 then true else bif p == 35 then true else p == 104) 80 _ _ _ _ _ _ ?_
      simp only [D, D0, hg, hgx, hlt, hp, bI_in, bI_0, bI_1, bI_t, bI_f, bI_01, ae_aaload, ae_aload, ae_aload_n, ae_arraylength, ae_baload, ae_dup, ae_getfield, ae_goto, ae_iadd, ae_iastore, ae_iconst, ae_ifCond, ae_if_icmp, ae_iinc, ae_iload, ae_istore, ae_putfield, dX4_storm_104, dX4_storm_106, dX4_storm_107, dX4_storm_110, dX4_storm_111, dX4_storm_114, dX4_storm_116, dX4_storm_118, dX4_storm_119, dX4_storm_122, dX4_storm_125, dX4_storm_126, dX4_storm_129, dX4_storm_131, dX4_storm_132, dX4_storm_133, dX4_storm_134, dX4_storm_135, dX4_storm_136, dX4_storm_137, dX4_storm_140, dX4_storm_141, dX4_storm_142, dX4_storm_145, dX4_storm_146, dX4_storm_148, dX4_storm_151, tbX4_g46, tbX4_g9, tbX4_p46, ca_X4_storm_39, ca_X4_storm_43, ab_wp0, ab_wps, ab_stp, ab_g, ab_st, ab_k2, ab_cl, ab_pop, ab_sz, ab_2, ab_ret, ab_f4, ab_tg, ab_I, ab_II, ab_A, ab_Rf, ab_VR, ab_IR, ab_VIR, ab_1, ab_LL, ab_DD, ab_ob, ab_pr, ab_qr, ab_ln, ab_so, ab_vI, ab_vA, ab_vD, ab_vL, ab_v2, ab_c, ab_fit, ab_rv, ab_tsw, ab_lsw, ab_up_eq, Fin.isValue, ab_f0, ab_f1, ab_f2, ab_f3, List.getElem?_cons_zero, List.getElem?_cons_succ, List.set_cons_zero, List.set_cons_succ, List.length_cons, List.length_nil, List.size_toArray, List.head?_cons, List.tail_cons, Option.map_some, cond_true, cond_false, true_and, and_true, false_and, and_false, not_true_eq_false, not_false_eq_true, true_imp_iff, false_imp_iff, if_true, if_false, ite_true, ite_false, ↓reduceIte, Nat.reduceAdd, Nat.reduceEqDiff, Nat.reduceLeDiff, Nat.reduceLT, Nat.reduceBEq, Nat.reduceBNe, Int.reduceAdd, Int.reduceNeg, Int.reduceSub, Int.reduceLE, Int.reduceLT, Int.reduceToNat, Int.reduceEq, Int.reduceMul, Int.cast_ofNat_Int, Nat.zero_add, Nat.add_zero, Nat.le_refl, eq_self, ne_eq, reduceCtorEq, or_true, true_or, or_false, false_or, Bool.or_true, Bool.or_false, Bool.true_or, Bool.false_or, Nat.zero_le, Int.le_refl, Int.ofNat_zero, Int.ofNat_one, Bool.false_eq_true]
      try simp only [ab_in]
      (repeat' (first | intro _ | refine And.intro ?_ ?_)) <;> (first | exact i0 | contradiction | omega | (exfalso; omega))
    · have hsl2 := hsl0 x
      have hat := off_at (M := M1) (g := goesS M1 force right) (x := x)
      rw [hat] at hpc hsl2
      have g3 := sim_sl g1 hp (v := ab_uf (M1.sl x) 5 0) (by obtain ⟨a1, a2, a3, a4, a5⟩ := hsl2; exact ⟨a1, a2, a3, a4, Or.inl rfl⟩)
      have hr2 := sumR_rb (g := goesS M1 force right) x 0
      have etk : (offS M1 (goesS M1 force right) x).tk = M1.tk + sumR (fun k => bI (goesS M1 force right k)) x 0 := rfl
      have htk2 : 0 ≤ (offS M1 (goesS M1 force right) x).tk + 1 ∧ (offS M1 (goesS M1 force right) x).tk + 1 ≤ 100000 := by have := mb.2.2.2.2.2; dsimp only at this etk hn0; omega
      have g4 := sim_obj g3 (d := (offS M1 (goesS M1 force right) x).day) (t := (offS M1 (goesS M1 force right) x).tk + 1) mb.2.2.2.2.1 htk2
      have hpg : ¬ p = g := by rintro rfl; rw [hg] at hpc; cases hpc
      have hag : ¬ a = g := by rintro rfl; rw [hg] at D; cases D
      have hap : ¬ a = p := by rintro rfl; rw [hpc] at D; cases D
      have i0 := ihm (x + 1) (ab_up (ab_up h2 p (.inr (.inl (0, 6, ab_uf (M1.sl x) 5 0)))) a (.inl (4, [.inr (.inl (some N.1)), .inr (.inl (some N.2.2.1)), .inr (.inl (some N.2.2.2.2.1)), .inl (offS M1 (goesS M1 force right) x).day, .inl ((offS M1 (goesS M1 force right) x).tk + 1)]))) (by omega) htk (by rw [ab_up_ap, if_neg (fun e => hag e.symm), ab_up_ap, if_neg (fun e => hpg e.symm)]; exact hg) (by rw [off_s hb]; exact g4) ((g2.up2 (a := p) (c := .inr (.inl (0, 6, ab_uf (M1.sl x) 5 0))) (Or.inl (Or.inr (Or.inr (Or.inr (Or.inr (Or.inl ⟨_, hp⟩))))))).up2 (Or.inl (Or.inl rfl)))
      rw [el, hb, Bool.or_true, bI_t, ex] at i0
      rw [hb, bI_t] at hgx
      clear r0 r1 r2 mb hsl0 ihm hE g4 g3 hsl2
      refine hV (fun p => bif p == 12 then true else bif p == 35 then true else p == 104) 80 _ _ _ _ _ _ ?_
      simp only [D, D0, hg, hgx, hlt, hp, hpc, ab_up_ap, hap, bI_in, bI_0, bI_1, bI_t, bI_f, bI_01, ae_aaload, ae_aload, ae_aload_n, ae_arraylength, ae_baload, ae_dup, ae_getfield, ae_goto, ae_iadd, ae_iastore, ae_iconst, ae_ifCond, ae_if_icmp, ae_iinc, ae_iload, ae_istore, ae_putfield, dX4_storm_104, dX4_storm_106, dX4_storm_107, dX4_storm_110, dX4_storm_111, dX4_storm_114, dX4_storm_116, dX4_storm_118, dX4_storm_119, dX4_storm_122, dX4_storm_125, dX4_storm_126, dX4_storm_129, dX4_storm_131, dX4_storm_132, dX4_storm_133, dX4_storm_134, dX4_storm_135, dX4_storm_136, dX4_storm_137, dX4_storm_140, dX4_storm_141, dX4_storm_142, dX4_storm_145, dX4_storm_146, dX4_storm_148, dX4_storm_151, tbX4_g46, tbX4_g9, tbX4_p46, ca_X4_storm_39, ca_X4_storm_43, ab_wp0, ab_wps, ab_stp, ab_g, ab_st, ab_k2, ab_cl, ab_pop, ab_sz, ab_2, ab_ret, ab_f4, ab_tg, ab_I, ab_II, ab_A, ab_Rf, ab_VR, ab_IR, ab_VIR, ab_1, ab_LL, ab_DD, ab_ob, ab_pr, ab_qr, ab_ln, ab_so, ab_vI, ab_vA, ab_vD, ab_vL, ab_v2, ab_c, ab_fit, ab_rv, ab_tsw, ab_lsw, ab_up_eq, Fin.isValue, ab_f0, ab_f1, ab_f2, ab_f3, List.getElem?_cons_zero, List.getElem?_cons_succ, List.set_cons_zero, List.set_cons_succ, List.length_cons, List.length_nil, List.size_toArray, List.head?_cons, List.tail_cons, Option.map_some, cond_true, cond_false, true_and, and_true, false_and, and_false, not_true_eq_false, not_false_eq_true, true_imp_iff, false_imp_iff, if_true, if_false, ite_true, ite_false, ↓reduceIte, Nat.reduceAdd, Nat.reduceEqDiff, Nat.reduceLeDiff, Nat.reduceLT, Nat.reduceBEq, Nat.reduceBNe, Int.reduceAdd, Int.reduceNeg, Int.reduceSub, Int.reduceLE, Int.reduceLT, Int.reduceToNat, Int.reduceEq, Int.reduceMul, Int.cast_ofNat_Int, Nat.zero_add, Nat.add_zero, Nat.le_refl, eq_self, ne_eq, reduceCtorEq, or_true, true_or, or_false, false_or, Bool.or_true, Bool.or_false, Bool.true_or, Bool.false_or, Nat.zero_le, Int.le_refl, Int.ofNat_zero, Int.ofNat_one, Bool.false_eq_true]
      try simp only [ab_in]
      (repeat' (first | intro _ | refine And.intro ?_ ?_)) <;> (first | exact i0 | contradiction | omega | (exfalso; omega))
set_option maxRecDepth 100000 in
set_option maxHeartbeats 4000000 in
theorem storm_l1 {base : Nat} {K : Option AV → AH → Prop} {V : AVt} {h : AH} {a g : Nat} {N : SN} {M1 : SM} {force right rd : Int} {k z : Nat} (hV : ab_Hv tbX4 lw_ts base cX4_storm ca_X4_storm 1 61 12200 K V) (hk61 : k ≤ 61) (hz12 : z ≤ 12200) (hs1 : 0 ≤ force ∧ force ≤ 20) (hs2 : right = 0 ∨ right = 1) (hg0 : h g = none)
    (hE : ∀ h2, h2 g = some (.inr (.inl (1, M1.n, gLs (goesS M1 force right) M1.n))) → simAt h2 a (N, M1) → ab_fo h h2 (simIn N a) → V 35 [some (.inr (.inl (some a))), some (.inl force), some (.inl right), some (.inl rd), some (.inl 0), some (.inr (.inl (some g))), some (.inl (M1.n : Int))] [] h2 k z) :
    ∀ (m x : Nat) (h2 : AH), x + m = M1.n → h2 g = some (.inr (.inl (1, M1.n, gLs (goesS M1 force right) x))) → simAt h2 a (N, M1) → ab_fo h h2 (simIn N a) → V 35 [some (.inr (.inl (some a))), some (.inl force), some (.inl right), some (.inl rd), some (.inl 0), some (.inr (.inl (some g))), some (.inl (x : Int))] [] h2 k z := by
  intro m
  induction m with
  | zero =>
    intro x h2 hx hg g1 g2
    have hx2 : x = M1.n := by omega
    subst hx2
    exact hE h2 hg g1 g2
  | succ m ihm =>
    intro x h2 hx hg g1 g2
    obtain ⟨mb, D, nd, D0, D1, D2, r0, r1, r2⟩ := id g1
    have hsl0 := mb.1
    have hn0 := mb.2.2.2.1
    dsimp only at D D0 D1 D2 r0 r1 r2 hsl0 hn0
    have hlt : ¬ (M1.n : Int) ≤ (x : Int) := by omega
    have ex : ((x + 1 : Nat) : Int) = (x : Int) + 1 := by omega
    have hsg := sim_of g1
    obtain ⟨p, hp, hpc⟩ := r0.1 x (by omega) (by omega)
    have hsl2 := hsl0 x
    have a5 := slB_5 hsl2
    have hhr : 0 ≤ holdS M1 (M1.sl x) ∧ holdS M1 (M1.sl x) ≤ 409 := holdS_r mb hsl2
    have hlr : -400 ≤ liftS M1 (M1.sl x) force right ∧ liftS M1 (M1.sl x) force right ≤ 27 := liftS_r mb hsl2 hs1 (right := right)
    have hT1 : slB (M1.sl x) = True := eq_true hsl2
    have hT2 : (right = 0 ∨ right = 1) = True := eq_true hs2
    have i0 := ihm (x + 1) (ab_up h2 g (.inr (.inl (1, M1.n, ab_uf (gLs (goesS M1 force right) x) (x : Int) (bI (goesS M1 force right x)))))) (by omega) (by rw [gLs_s]; exact ab_up_eq _ _ _) (sim_put g1 hg (by omega)) (g2.up2 (Or.inr hg0))
    rw [ex] at i0
    clear r0 r1 r2 mb hsl0 ihm hE hs2
    by_cases h5 : M1.sl x 5 = 1
    · by_cases hlo : holdS M1 (M1.sl x) < liftS M1 (M1.sl x) force right
      · have hb : goesS M1 force right x = true := by unfold goesS; rw [decide_eq_true h5, decide_eq_true hlo]; rfl
        rw [hb, bI_t] at i0
        refine hV (fun p => bif p == 12 then true else bif p == 35 then true else p == 104) 80 _ _ _ _ _ _ ?_
        simp only [D, D0, hg, hlt, hp, hpc, hsg, hT1, hT2, h5, bI_in, bI_0, bI_1, bI_t, bI_f, bI_01, Tr_X4_lift, Tr_X4_hold, ae_aaload, ae_aload, ae_aload_n, ae_arraylength, ae_bastore, ae_getfield, ae_goto, ae_iaload, ae_iconst, ae_if_icmp, ae_iinc, ae_iload, ae_iload_n, ae_invokevirtual, dX4_storm_35, dX4_storm_37, dX4_storm_38, dX4_storm_41, dX4_storm_42, dX4_storm_45, dX4_storm_47, dX4_storm_49, dX4_storm_50, dX4_storm_53, dX4_storm_55, dX4_storm_56, dX4_storm_57, dX4_storm_58, dX4_storm_59, dX4_storm_62, dX4_storm_63, dX4_storm_64, dX4_storm_67, dX4_storm_69, dX4_storm_70, dX4_storm_71, dX4_storm_72, dX4_storm_75, dX4_storm_76, dX4_storm_77, dX4_storm_80, dX4_storm_82, dX4_storm_83, dX4_storm_86, dX4_storm_89, dX4_storm_90, dX4_storm_93, dX4_storm_94, dX4_storm_95, dX4_storm_98, tbX4_g9, ca_X4_storm_39, ca_X4_storm_43, ab_wp0, ab_wps, ab_stp, ab_g, ab_st, ab_k2, ab_cl, ab_pop, ab_sz, ab_2, ab_ret, ab_f4, ab_tg, ab_I, ab_II, ab_A, ab_Rf, ab_VR, ab_IR, ab_VIR, ab_1, ab_LL, ab_DD, ab_ob, ab_pr, ab_qr, ab_ln, ab_so, ab_vI, ab_vA, ab_vD, ab_vL, ab_v2, ab_c, ab_fit, ab_rv, ab_tsw, ab_lsw, ab_up_eq, Fin.isValue, ab_f0, ab_f1, ab_f2, ab_f3, List.getElem?_cons_zero, List.getElem?_cons_succ, List.set_cons_zero, List.set_cons_succ, List.length_cons, List.length_nil, List.size_toArray, List.head?_cons, List.tail_cons, Option.map_some, cond_true, cond_false, true_and, and_true, false_and, and_false, not_true_eq_false, not_false_eq_true, true_imp_iff, false_imp_iff, if_true, if_false, ite_true, ite_false, ↓reduceIte, Nat.reduceAdd, Nat.reduceEqDiff, Nat.reduceLeDiff, Nat.reduceLT, Nat.reduceBEq, Nat.reduceBNe, Int.reduceAdd, Int.reduceNeg, Int.reduceSub, Int.reduceLE, Int.reduceLT, Int.reduceToNat, Int.reduceEq, Int.reduceMul, Int.cast_ofNat_Int, Nat.zero_add, Nat.add_zero, Nat.le_refl, eq_self, ne_eq, reduceCtorEq, or_true, true_or, or_false, false_or, Bool.or_true, Bool.or_false, Bool.true_or, Bool.false_or, Nat.zero_le, Int.le_refl, Int.ofNat_zero, Int.ofNat_one, Bool.false_eq_true]
        try simp only [ab_in]
        (repeat' (first | intro _ | refine And.intro ?_ ?_)) <;> (first | exact i0 | exact rfl | contradiction | omega | (exfalso; omega))
      · have hb : goesS M1 force right x = false := by unfold goesS; rw [decide_eq_false hlo, Bool.and_false]
        rw [hb, bI_f] at i0
        refine hV (fun p => bif p == 12 then true else bif p == 35 then true else p == 104) 80 _ _ _ _ _ _ ?_
        simp only [D, D0, hg, hlt, hp, hpc, hsg, hT1, hT2, h5, bI_in, bI_0, bI_1, bI_t, bI_f, bI_01, Tr_X4_lift, Tr_X4_hold, ae_aaload, ae_aload, ae_aload_n, ae_arraylength, ae_bastore, ae_getfield, ae_goto, ae_iaload, ae_iconst, ae_if_icmp, ae_iinc, ae_iload, ae_iload_n, ae_invokevirtual, dX4_storm_35, dX4_storm_37, dX4_storm_38, dX4_storm_41, dX4_storm_42, dX4_storm_45, dX4_storm_47, dX4_storm_49, dX4_storm_50, dX4_storm_53, dX4_storm_55, dX4_storm_56, dX4_storm_57, dX4_storm_58, dX4_storm_59, dX4_storm_62, dX4_storm_63, dX4_storm_64, dX4_storm_67, dX4_storm_69, dX4_storm_70, dX4_storm_71, dX4_storm_72, dX4_storm_75, dX4_storm_76, dX4_storm_77, dX4_storm_80, dX4_storm_82, dX4_storm_83, dX4_storm_86, dX4_storm_89, dX4_storm_90, dX4_storm_93, dX4_storm_94, dX4_storm_95, dX4_storm_98, tbX4_g9, ca_X4_storm_39, ca_X4_storm_43, ab_wp0, ab_wps, ab_stp, ab_g, ab_st, ab_k2, ab_cl, ab_pop, ab_sz, ab_2, ab_ret, ab_f4, ab_tg, ab_I, ab_II, ab_A, ab_Rf, ab_VR, ab_IR, ab_VIR, ab_1, ab_LL, ab_DD, ab_ob, ab_pr, ab_qr, ab_ln, ab_so, ab_vI, ab_vA, ab_vD, ab_vL, ab_v2, ab_c, ab_fit, ab_rv, ab_tsw, ab_lsw, ab_up_eq, Fin.isValue, ab_f0, ab_f1, ab_f2, ab_f3, List.getElem?_cons_zero, List.getElem?_cons_succ, List.set_cons_zero, List.set_cons_succ, List.length_cons, List.length_nil, List.size_toArray, List.head?_cons, List.tail_cons, Option.map_some, cond_true, cond_false, true_and, and_true, false_and, and_false, not_true_eq_false, not_false_eq_true, true_imp_iff, false_imp_iff, if_true, if_false, ite_true, ite_false, ↓reduceIte, Nat.reduceAdd, Nat.reduceEqDiff, Nat.reduceLeDiff, Nat.reduceLT, Nat.reduceBEq, Nat.reduceBNe, Int.reduceAdd, Int.reduceNeg, Int.reduceSub, Int.reduceLE, Int.reduceLT, Int.reduceToNat, Int.reduceEq, Int.reduceMul, Int.cast_ofNat_Int, Nat.zero_add, Nat.add_zero, Nat.le_refl, eq_self, ne_eq, reduceCtorEq, or_true, true_or, or_false, false_or, Bool.or_true, Bool.or_false, Bool.true_or, Bool.false_or, Nat.zero_le, Int.le_refl, Int.ofNat_zero, Int.ofNat_one, Bool.false_eq_true]
        try simp only [ab_in]
        (repeat' (first | intro _ | refine And.intro ?_ ?_)) <;> (first | exact i0 | exact rfl | contradiction | omega | (exfalso; omega))
    · have hb : goesS M1 force right x = false := by unfold goesS; rw [decide_eq_false h5, Bool.false_and]
      rw [hb, bI_f] at i0
      refine hV (fun p => bif p == 12 then true else bif p == 35 then true else p == 104) 80 _ _ _ _ _ _ ?_
      simp only [D, D0, hg, hlt, hp, hpc, hsg, h5, bI_in, bI_0, bI_1, bI_t, bI_f, bI_01, Tr_X4_lift, Tr_X4_hold, ae_aaload, ae_aload, ae_aload_n, ae_arraylength, ae_bastore, ae_getfield, ae_goto, ae_iaload, ae_iconst, ae_if_icmp, ae_iinc, ae_iload, ae_iload_n, ae_invokevirtual, dX4_storm_35, dX4_storm_37, dX4_storm_38, dX4_storm_41, dX4_storm_42, dX4_storm_45, dX4_storm_47, dX4_storm_49, dX4_storm_50, dX4_storm_53, dX4_storm_55, dX4_storm_56, dX4_storm_57, dX4_storm_58, dX4_storm_59, dX4_storm_62, dX4_storm_63, dX4_storm_64, dX4_storm_67, dX4_storm_69, dX4_storm_70, dX4_storm_71, dX4_storm_72, dX4_storm_75, dX4_storm_76, dX4_storm_77, dX4_storm_80, dX4_storm_82, dX4_storm_83, dX4_storm_86, dX4_storm_89, dX4_storm_90, dX4_storm_93, dX4_storm_94, dX4_storm_95, dX4_storm_98, tbX4_g9, ca_X4_storm_39, ca_X4_storm_43, ab_wp0, ab_wps, ab_stp, ab_g, ab_st, ab_k2, ab_cl, ab_pop, ab_sz, ab_2, ab_ret, ab_f4, ab_tg, ab_I, ab_II, ab_A, ab_Rf, ab_VR, ab_IR, ab_VIR, ab_1, ab_LL, ab_DD, ab_ob, ab_pr, ab_qr, ab_ln, ab_so, ab_vI, ab_vA, ab_vD, ab_vL, ab_v2, ab_c, ab_fit, ab_rv, ab_tsw, ab_lsw, ab_up_eq, Fin.isValue, ab_f0, ab_f1, ab_f2, ab_f3, List.getElem?_cons_zero, List.getElem?_cons_succ, List.set_cons_zero, List.set_cons_succ, List.length_cons, List.length_nil, List.size_toArray, List.head?_cons, List.tail_cons, Option.map_some, cond_true, cond_false, true_and, and_true, false_and, and_false, not_true_eq_false, not_false_eq_true, true_imp_iff, false_imp_iff, if_true, if_false, ite_true, ite_false, ↓reduceIte, Nat.reduceAdd, Nat.reduceEqDiff, Nat.reduceLeDiff, Nat.reduceLT, Nat.reduceBEq, Nat.reduceBNe, Int.reduceAdd, Int.reduceNeg, Int.reduceSub, Int.reduceLE, Int.reduceLT, Int.reduceToNat, Int.reduceEq, Int.reduceMul, Int.cast_ofNat_Int, Nat.zero_add, Nat.add_zero, Nat.le_refl, eq_self, ne_eq, reduceCtorEq, or_true, true_or, or_false, false_or, Bool.or_true, Bool.or_false, Bool.true_or, Bool.false_or, Nat.zero_le, Int.le_refl, Int.ofNat_zero, Int.ofNat_one, Bool.false_eq_true]
      try simp only [ab_in]
      (repeat' (first | intro _ | refine And.intro ?_ ?_)) <;> (first | exact i0 | exact rfl | contradiction | omega | (exfalso; omega))
set_option maxRecDepth 100000 in
set_option maxHeartbeats 4000000 in
theorem sem_X4_storm (base : Nat) : ab_Sem tbX4 lw_ts base cX4_storm ca_X4_storm 1 7 61 12200 (fun as => ab_en as 7) Tr_X4_storm := by
  intro as h K hT V hV
  unfold Tr_X4_storm at hT
  split at hT
  · rename_i a force right
    obtain ⟨⟨N, M⟩, hP, hs, hK⟩ := ab_so_el hT
    have hA := sim_el hP
    obtain ⟨hs1, hs2, hs3, hs4⟩ := hs
    dsimp only at hs3 hs4 hK
    show V 0 [some (.inr (.inl (some a))), some (.inl force), some (.inl right), none, none, none, none] [] h 0 0
    have rt0 : ∀ (rd : Int) (w5 w6 : Option AV) (h1 : AH) (k z : Nat), simAt h1 a (N, stormS M force right) → ab_fo h h1 (simIn N a) → V 12 [some (.inr (.inl (some a))), some (.inl force), some (.inl right), some (.inl rd), some (.inl 0), w5, w6] [] h1 k z := by
      intro rd w5 w6 h1 k z g1 g2
      have hk2 := hK h1 rd (sim_of g1) g2
      refine hV (fun p => bif p == 12 then true else bif p == 35 then true else p == 104) 80 _ _ _ _ _ _ ?_
      simp only [bI_in, bI_0, bI_1, bI_t, bI_f, bI_01, ae_aaload, ae_aload, ae_aload_n, ae_arraylength, ae_astore, ae_baload, ae_bastore, ae_dup, ae_getfield, ae_goto, ae_iadd, ae_iaload, ae_iastore, ae_iconst, ae_ifCond, ae_if_icmp, ae_iinc, ae_iload, ae_iload_n, ae_invokevirtual, ae_ireturn, ae_istore, ae_newarray, ae_putfield, dX4_storm_12, dX4_storm_14, dX4_storm_17, dX4_storm_18, dX4_storm_20, dX4_storm_23, dX4_storm_24, dX4_storm_27, dX4_storm_28, dX4_storm_30, dX4_storm_32, dX4_storm_33, dX4_storm_35, dX4_storm_37, dX4_storm_38, dX4_storm_41, dX4_storm_42, dX4_storm_45, dX4_storm_47, dX4_storm_49, dX4_storm_50, dX4_storm_53, dX4_storm_55, dX4_storm_56, dX4_storm_57, dX4_storm_58, dX4_storm_59, dX4_storm_62, dX4_storm_63, dX4_storm_64, dX4_storm_67, dX4_storm_69, dX4_storm_70, dX4_storm_71, dX4_storm_72, dX4_storm_75, dX4_storm_76, dX4_storm_77, dX4_storm_80, dX4_storm_82, dX4_storm_83, dX4_storm_86, dX4_storm_89, dX4_storm_90, dX4_storm_93, dX4_storm_94, dX4_storm_95, dX4_storm_98, dX4_storm_101, dX4_storm_102, dX4_storm_104, dX4_storm_106, dX4_storm_107, dX4_storm_110, dX4_storm_111, dX4_storm_114, dX4_storm_116, dX4_storm_118, dX4_storm_119, dX4_storm_122, dX4_storm_125, dX4_storm_126, dX4_storm_129, dX4_storm_131, dX4_storm_132, dX4_storm_133, dX4_storm_134, dX4_storm_135, dX4_storm_136, dX4_storm_137, dX4_storm_140, dX4_storm_141, dX4_storm_142, dX4_storm_145, dX4_storm_146, dX4_storm_148, dX4_storm_151, dX4_storm_154, dX4_storm_157, dX4_storm_158, tbX4_g46, tbX4_g9, tbX4_p46, ca_X4_storm_39, ca_X4_storm_43, ab_wp0, ab_wps, ab_stp, ab_g, ab_st, ab_k2, ab_cl, ab_pop, ab_sz, ab_2, ab_ret, ab_f4, ab_tg, ab_I, ab_II, ab_A, ab_Rf, ab_VR, ab_IR, ab_VIR, ab_1, ab_LL, ab_DD, ab_ob, ab_pr, ab_qr, ab_ln, ab_so, ab_vI, ab_vA, ab_vD, ab_vL, ab_v2, ab_c, ab_fit, ab_rv, ab_tsw, ab_lsw, ab_up_eq, Fin.isValue, ab_f0, ab_f1, ab_f2, ab_f3, List.getElem?_cons_zero, List.getElem?_cons_succ, List.set_cons_zero, List.set_cons_succ, List.length_cons, List.length_nil, List.size_toArray, List.head?_cons, List.tail_cons, Option.map_some, cond_true, cond_false, true_and, and_true, false_and, and_false, not_true_eq_false, not_false_eq_true, true_imp_iff, false_imp_iff, if_true, if_false, ite_true, ite_false, ↓reduceIte, Nat.reduceAdd, Nat.reduceEqDiff, Nat.reduceLeDiff, Nat.reduceLT, Nat.reduceBEq, Nat.reduceBNe, Int.reduceAdd, Int.reduceNeg, Int.reduceSub, Int.reduceLE, Int.reduceLT, Int.reduceToNat, Int.reduceEq, Int.reduceMul, Int.cast_ofNat_Int, Nat.zero_add, Nat.add_zero, Nat.le_refl, eq_self, ne_eq, reduceCtorEq, or_true, true_or, or_false, false_or, Bool.or_true, Bool.or_false, Bool.true_or, Bool.false_or, Nat.zero_le, Int.le_refl, Int.ofNat_zero, Int.ofNat_one, Bool.false_eq_true]
      try simp only [ab_in]
      (repeat' (first | intro _ | refine And.intro ?_ ?_)) <;> (first | exact hk2 | contradiction | omega | (exfalso; omega))
    have outer : ∀ (fuel : Nat) (rd : Int) (w5 w6 : Option AV) (h1 : AH) (M1 : SM) (k z : Nat), onS M1 0 < (fuel : Int) → stormL force right fuel M1 = stormS M force right → M1.tk + onS M1 0 ≤ 99060 → simAt h1 a (N, M1) → ab_fo h h1 (simIn N a) → k + fuel ≤ 61 → z + 200 * fuel ≤ 12200 → V 12 [some (.inr (.inl (some a))), some (.inl force), some (.inl right), some (.inl rd), some (.inl 1), w5, w6] [] h1 k z := by
      intro fuel
      induction fuel with
      | zero =>
        intro rd w5 w6 h1 M1 k z q1
        have := sumR_rb (g := fun k => decide (M1.sl k 5 = 1) && (decide ((0 : Int) = 0) || decide (M1.sl k 4 = 1))) M1.n 0
        have e : onS M1 0 = sumR (fun k => bI (decide (M1.sl k 5 = 1) && (decide ((0 : Int) = 0) || decide (M1.sl k 4 = 1)))) M1.n 0 := rfl
        omega
      | succ fuel ih =>
        intro rd w5 w6 h1 M1 k z q1 q2 q3 q4 q5 q6 q7
        have e0 : onS M1 0 = sumR (fun k => bI (decide (M1.sl k 5 = 1) && (decide ((0 : Int) = 0) || decide (M1.sl k 4 = 1)))) M1.n 0 := rfl
        have e1 := sumR_rb (g := fun k => decide (M1.sl k 5 = 1) && (decide ((0 : Int) = 0) || decide (M1.sl k 4 = 1))) M1.n 0
        have hgo := goes_on (M := M1) (force := force) (right := right)
        have hoo := off_on hgo
        have hn1 : M1.n ≤ 200 := q4.1.2.2.2.1
        have end2 : ∀ (g : Nat) (h2 : AH), simAt h2 a (N, offS M1 (goesS M1 force right) M1.n) → ab_fo h h2 (simIn N a) → V 104 [some (.inr (.inl (some a))), some (.inl force), some (.inl right), some (.inl (rd + 1)), some (.inl (bI (anyR (goesS M1 force right) M1.n 0))), some (.inr (.inl (some g))), some (.inl (M1.n : Int))] [] h2 (k + 1) (z + M1.n) := by
          intro g h2 g1 g2
          obtain ⟨mb, D, nd, D0, D1, D2, r0, r1, r2⟩ := id g1
          have hsl0 := mb.1
          have hn0 := mb.2.2.2.1
          dsimp only at D D0 D1 D2 r0 r1 r2 hsl0 hn0
          have hle : (M1.n : Int) ≤ (M1.n : Int) := Int.le_refl _
          have hon0 : (offS M1 (goesS M1 force right) M1.n).n = M1.n := rfl
          rw [hon0] at D0
          cases hany : anyR (goesS M1 force right) M1.n 0
          · have i0 := rt0 (rd + 1) (some (.inr (.inl (some g)))) (some (.inl (M1.n : Int))) h2 (k + 1) (z + M1.n) (by rw [← q2]; simp only [stormL, hany, cond_false]; rw [off_none hany] at g1; exact g1) g2
            simp only [bI_f]
            clear r0 r1 r2 mb hsl0 ih rt0 hoo e0 e1 hgo
            refine hV (fun p => bif p == 12 then true else bif p == 35 then true else p == 104) 80 _ _ _ _ _ _ ?_
            simp only [D, D0, hle, bI_in, bI_0, bI_1, bI_t, bI_f, bI_01, ae_aaload, ae_aload, ae_aload_n, ae_arraylength, ae_baload, ae_dup, ae_getfield, ae_goto, ae_iadd, ae_iastore, ae_iconst, ae_ifCond, ae_if_icmp, ae_iinc, ae_iload, ae_istore, ae_putfield, dX4_storm_104, dX4_storm_106, dX4_storm_107, dX4_storm_110, dX4_storm_111, dX4_storm_114, dX4_storm_116, dX4_storm_118, dX4_storm_119, dX4_storm_122, dX4_storm_125, dX4_storm_126, dX4_storm_129, dX4_storm_131, dX4_storm_132, dX4_storm_133, dX4_storm_134, dX4_storm_135, dX4_storm_136, dX4_storm_137, dX4_storm_140, dX4_storm_141, dX4_storm_142, dX4_storm_145, dX4_storm_146, dX4_storm_148, dX4_storm_151, dX4_storm_154, tbX4_g46, tbX4_g9, tbX4_p46, ca_X4_storm_39, ca_X4_storm_43, ab_wp0, ab_wps, ab_stp, ab_g, ab_st, ab_k2, ab_cl, ab_pop, ab_sz, ab_2, ab_ret, ab_f4, ab_tg, ab_I, ab_II, ab_A, ab_Rf, ab_VR, ab_IR, ab_VIR, ab_1, ab_LL, ab_DD, ab_ob, ab_pr, ab_qr, ab_ln, ab_so, ab_vI, ab_vA, ab_vD, ab_vL, ab_v2, ab_c, ab_fit, ab_rv, ab_tsw, ab_lsw, ab_up_eq, Fin.isValue, ab_f0, ab_f1, ab_f2, ab_f3, List.getElem?_cons_zero, List.getElem?_cons_succ, List.set_cons_zero, List.set_cons_succ, List.length_cons, List.length_nil, List.size_toArray, List.head?_cons, List.tail_cons, Option.map_some, cond_true, cond_false, true_and, and_true, false_and, and_false, not_true_eq_false, not_false_eq_true, true_imp_iff, false_imp_iff, if_true, if_false, ite_true, ite_false, ↓reduceIte, Nat.reduceAdd, Nat.reduceEqDiff, Nat.reduceLeDiff, Nat.reduceLT, Nat.reduceBEq, Nat.reduceBNe, Int.reduceAdd, Int.reduceNeg, Int.reduceSub, Int.reduceLE, Int.reduceLT, Int.reduceToNat, Int.reduceEq, Int.reduceMul, Int.cast_ofNat_Int, Nat.zero_add, Nat.add_zero, Nat.le_refl, eq_self, ne_eq, reduceCtorEq, or_true, true_or, or_false, false_or, Bool.or_true, Bool.or_false, Bool.true_or, Bool.false_or, Nat.zero_le, Int.le_refl, Int.ofNat_zero, Int.ofNat_one, Bool.false_eq_true]
            try simp only [ab_in]
            (repeat' (first | intro _ | refine And.intro ?_ ?_)) <;> (first | exact i0 | contradiction | omega | (exfalso; omega))
          · have hpos := sumR_any _ _ hany
            have i0 := ih (rd + 1) (some (.inr (.inl (some g)))) (some (.inl (M1.n : Int))) h2 (offS M1 (goesS M1 force right) M1.n) (k + 1) (z + M1.n) (by omega) (by rw [← q2]; simp only [stormL, hany, cond_true]) (by have e5 : (offS M1 (goesS M1 force right) M1.n).tk = M1.tk + sumR (fun k => bI (goesS M1 force right k)) M1.n 0 := rfl; omega) g1 g2 (by omega) (by omega)
            simp only [bI_t]
            clear r0 r1 r2 mb hsl0 ih rt0 hoo e0 e1 hgo
            refine hV (fun p => bif p == 12 then true else bif p == 35 then true else p == 104) 80 _ _ _ _ _ _ ?_
            simp only [D, D0, hle, bI_in, bI_0, bI_1, bI_t, bI_f, bI_01, ae_aaload, ae_aload, ae_aload_n, ae_arraylength, ae_baload, ae_dup, ae_getfield, ae_goto, ae_iadd, ae_iastore, ae_iconst, ae_ifCond, ae_if_icmp, ae_iinc, ae_iload, ae_istore, ae_putfield, dX4_storm_104, dX4_storm_106, dX4_storm_107, dX4_storm_110, dX4_storm_111, dX4_storm_114, dX4_storm_116, dX4_storm_118, dX4_storm_119, dX4_storm_122, dX4_storm_125, dX4_storm_126, dX4_storm_129, dX4_storm_131, dX4_storm_132, dX4_storm_133, dX4_storm_134, dX4_storm_135, dX4_storm_136, dX4_storm_137, dX4_storm_140, dX4_storm_141, dX4_storm_142, dX4_storm_145, dX4_storm_146, dX4_storm_148, dX4_storm_151, dX4_storm_154, tbX4_g46, tbX4_g9, tbX4_p46, ca_X4_storm_39, ca_X4_storm_43, ab_wp0, ab_wps, ab_stp, ab_g, ab_st, ab_k2, ab_cl, ab_pop, ab_sz, ab_2, ab_ret, ab_f4, ab_tg, ab_I, ab_II, ab_A, ab_Rf, ab_VR, ab_IR, ab_VIR, ab_1, ab_LL, ab_DD, ab_ob, ab_pr, ab_qr, ab_ln, ab_so, ab_vI, ab_vA, ab_vD, ab_vL, ab_v2, ab_c, ab_fit, ab_rv, ab_tsw, ab_lsw, ab_up_eq, Fin.isValue, ab_f0, ab_f1, ab_f2, ab_f3, List.getElem?_cons_zero, List.getElem?_cons_succ, List.set_cons_zero, List.set_cons_succ, List.length_cons, List.length_nil, List.size_toArray, List.head?_cons, List.tail_cons, Option.map_some, cond_true, cond_false, true_and, and_true, false_and, and_false, not_true_eq_false, not_false_eq_true, true_imp_iff, false_imp_iff, if_true, if_false, ite_true, ite_false, ↓reduceIte, Nat.reduceAdd, Nat.reduceEqDiff, Nat.reduceLeDiff, Nat.reduceLT, Nat.reduceBEq, Nat.reduceBNe, Int.reduceAdd, Int.reduceNeg, Int.reduceSub, Int.reduceLE, Int.reduceLT, Int.reduceToNat, Int.reduceEq, Int.reduceMul, Int.cast_ofNat_Int, Nat.zero_add, Nat.add_zero, Nat.le_refl, eq_self, ne_eq, reduceCtorEq, or_true, true_or, or_false, false_or, Bool.or_true, Bool.or_false, Bool.true_or, Bool.false_or, Nat.zero_le, Int.le_refl, Int.ofNat_zero, Int.ofNat_one, Bool.false_eq_true]
            try simp only [ab_in]
            (repeat' (first | intro _ | refine And.intro ?_ ?_)) <;> (first | exact i0 | contradiction | omega | (exfalso; omega))
        have htk0 : M1.tk ≤ 99060 := by omega
        have end1 : ∀ (g : Nat) (h2 : AH), h g = none → h2 g = some (.inr (.inl (1, M1.n, gLs (goesS M1 force right) M1.n))) → simAt h2 a (N, M1) → ab_fo h h2 (simIn N a) → V 35 [some (.inr (.inl (some a))), some (.inl force), some (.inl right), some (.inl (rd + 1)), some (.inl 0), some (.inr (.inl (some g))), some (.inl (M1.n : Int))] [] h2 (k + 1) (z + M1.n) := by
          intro g h2 hg0 hg g1 g2
          obtain ⟨mb, D, nd, D0, D1, D2, r0, r1, r2⟩ := id g1
          have hsl0 := mb.1
          have hn0 := mb.2.2.2.1
          dsimp only at D D0 D1 D2 r0 r1 r2 hsl0 hn0
          have hle : (M1.n : Int) ≤ (M1.n : Int) := Int.le_refl _
          have i0 := storm_l2 hV hg0 (fun h3 _ u1 u2 => end2 g h3 u1 u2) M1.n 0 h2 (by omega) htk0 hg (by rw [off_0]; exact g1) g2
          clear r0 r1 r2 mb hsl0 ih rt0 hoo e0 e1 hgo end2
          refine hV (fun p => bif p == 12 then true else bif p == 35 then true else p == 104) 80 _ _ _ _ _ _ ?_
          simp only [D, D0, hle, bI_in, bI_0, bI_1, bI_t, bI_f, bI_01, ae_aaload, ae_aload, ae_aload_n, ae_arraylength, ae_bastore, ae_getfield, ae_goto, ae_iaload, ae_iconst, ae_if_icmp, ae_iinc, ae_iload, ae_iload_n, ae_invokevirtual, ae_istore, dX4_storm_35, dX4_storm_37, dX4_storm_38, dX4_storm_41, dX4_storm_42, dX4_storm_45, dX4_storm_47, dX4_storm_49, dX4_storm_50, dX4_storm_53, dX4_storm_55, dX4_storm_56, dX4_storm_57, dX4_storm_58, dX4_storm_59, dX4_storm_62, dX4_storm_63, dX4_storm_64, dX4_storm_67, dX4_storm_69, dX4_storm_70, dX4_storm_71, dX4_storm_72, dX4_storm_75, dX4_storm_76, dX4_storm_77, dX4_storm_80, dX4_storm_82, dX4_storm_83, dX4_storm_86, dX4_storm_89, dX4_storm_90, dX4_storm_93, dX4_storm_94, dX4_storm_95, dX4_storm_98, dX4_storm_101, dX4_storm_102, tbX4_g9, ca_X4_storm_39, ca_X4_storm_43, ab_wp0, ab_wps, ab_stp, ab_g, ab_st, ab_k2, ab_cl, ab_pop, ab_sz, ab_2, ab_ret, ab_f4, ab_tg, ab_I, ab_II, ab_A, ab_Rf, ab_VR, ab_IR, ab_VIR, ab_1, ab_LL, ab_DD, ab_ob, ab_pr, ab_qr, ab_ln, ab_so, ab_vI, ab_vA, ab_vD, ab_vL, ab_v2, ab_c, ab_fit, ab_rv, ab_tsw, ab_lsw, ab_up_eq, Fin.isValue, ab_f0, ab_f1, ab_f2, ab_f3, List.getElem?_cons_zero, List.getElem?_cons_succ, List.set_cons_zero, List.set_cons_succ, List.length_cons, List.length_nil, List.size_toArray, List.head?_cons, List.tail_cons, Option.map_some, cond_true, cond_false, true_and, and_true, false_and, and_false, not_true_eq_false, not_false_eq_true, true_imp_iff, false_imp_iff, if_true, if_false, ite_true, ite_false, ↓reduceIte, Nat.reduceAdd, Nat.reduceEqDiff, Nat.reduceLeDiff, Nat.reduceLT, Nat.reduceBEq, Nat.reduceBNe, Int.reduceAdd, Int.reduceNeg, Int.reduceSub, Int.reduceLE, Int.reduceLT, Int.reduceToNat, Int.reduceEq, Int.reduceMul, Int.cast_ofNat_Int, Nat.zero_add, Nat.add_zero, Nat.le_refl, eq_self, ne_eq, reduceCtorEq, or_true, true_or, or_false, false_or, Bool.or_true, Bool.or_false, Bool.true_or, Bool.false_or, Nat.zero_le, Int.le_refl, Int.ofNat_zero, Int.ofNat_one, Bool.false_eq_true]
          try simp only [ab_in]
          (repeat' (first | intro _ | refine And.intro ?_ ?_)) <;> (first | exact i0 | exact rfl | contradiction | omega | (exfalso; omega))
        have lp1 : ∀ (g : Nat), h1 g = none → V 35 [some (.inr (.inl (some a))), some (.inl force), some (.inl right), some (.inl (rd + 1)), some (.inl 0), some (.inr (.inl (some g))), some (.inl ((0 : Nat) : Int))] [] (ab_up h1 g (.inr (.inl (1, M1.n, fun _ => 0)))) (k + 1) (z + M1.n) := by
          intro g hg
          have hg0 := sim_fresh q4 q5 hg
          exact storm_l1 hV (by omega) (by omega) hs1 hs2 hg0 (fun h2 u1 u2 u3 => end1 g h2 hg0 u1 u2 u3) M1.n 0 _ (by omega) (by rw [gLs_0]; exact ab_up_eq _ _ _) (sim_new q4 hg) (q5.up2 (Or.inr hg0))
        obtain ⟨mb, D, nd, D0, D1, D2, r0, r1, r2⟩ := id q4
        have hsl0 := mb.1
        have hn0 := mb.2.2.2.1
        dsimp only at D D0 D1 D2 r0 r1 r2 hsl0 hn0
        clear r0 r1 r2 mb hsl0 ih rt0 hoo e0 e1 hgo end1 end2
        refine hV (fun p => bif p == 12 then true else bif p == 35 then true else p == 104) 80 _ _ _ _ _ _ ?_
        simp only [D, D0, Int.toNat_natCast, Int.natCast_zero, ab_at, bI_in, bI_0, bI_1, bI_t, bI_f, bI_01, ae_aload_n, ae_arraylength, ae_astore, ae_getfield, ae_iconst, ae_ifCond, ae_iinc, ae_iload, ae_istore, ae_newarray, dX4_storm_12, dX4_storm_14, dX4_storm_17, dX4_storm_18, dX4_storm_20, dX4_storm_23, dX4_storm_24, dX4_storm_27, dX4_storm_28, dX4_storm_30, dX4_storm_32, dX4_storm_33, tbX4_g9, ca_X4_storm_39, ca_X4_storm_43, ab_wp0, ab_wps, ab_stp, ab_g, ab_st, ab_k2, ab_cl, ab_pop, ab_sz, ab_2, ab_ret, ab_f4, ab_tg, ab_I, ab_II, ab_A, ab_Rf, ab_VR, ab_IR, ab_VIR, ab_1, ab_LL, ab_DD, ab_ob, ab_pr, ab_qr, ab_ln, ab_so, ab_vI, ab_vA, ab_vD, ab_vL, ab_v2, ab_c, ab_fit, ab_rv, ab_tsw, ab_lsw, ab_up_eq, Fin.isValue, ab_f0, ab_f1, ab_f2, ab_f3, List.getElem?_cons_zero, List.getElem?_cons_succ, List.set_cons_zero, List.set_cons_succ, List.length_cons, List.length_nil, List.size_toArray, List.head?_cons, List.tail_cons, Option.map_some, cond_true, cond_false, true_and, and_true, false_and, and_false, not_true_eq_false, not_false_eq_true, true_imp_iff, false_imp_iff, if_true, if_false, ite_true, ite_false, ↓reduceIte, Nat.reduceAdd, Nat.reduceEqDiff, Nat.reduceLeDiff, Nat.reduceLT, Nat.reduceBEq, Nat.reduceBNe, Int.reduceAdd, Int.reduceNeg, Int.reduceSub, Int.reduceLE, Int.reduceLT, Int.reduceToNat, Int.reduceEq, Int.reduceMul, Int.cast_ofNat_Int, Nat.zero_add, Nat.add_zero, Nat.le_refl, eq_self, ne_eq, reduceCtorEq, or_true, true_or, or_false, false_or, Bool.or_true, Bool.or_false, Bool.true_or, Bool.false_or, Nat.zero_le, Int.le_refl, Int.ofNat_zero, Int.ofNat_one, Bool.false_eq_true]
        try simp only [ab_in]
        (repeat' (first | intro _ | refine And.intro ?_ ?_)) <;> (first | exact lp1 _ (by assumption) | exact (by decide) | contradiction | omega | (exfalso; omega))
    by_cases hfo : force < 1
    · have hk2 := hK h 0 (by rw [stormS, if_pos hfo]; exact hP) ab_fo.rf
      refine hV (fun p => bif p == 12 then true else bif p == 35 then true else p == 104) 80 _ _ _ _ _ _ ?_
      simp only [hfo, bI_in, bI_0, bI_1, bI_t, bI_f, bI_01, ae_iconst, ae_if_icmp, ae_iload_n, ae_ireturn, ae_istore, ae_istore_n, dX4_storm_0, dX4_storm_1, dX4_storm_2, dX4_storm_5, dX4_storm_6, dX4_storm_7, dX4_storm_8, dX4_storm_9, dX4_storm_10, ca_X4_storm_39, ca_X4_storm_43, ab_wp0, ab_wps, ab_stp, ab_g, ab_st, ab_k2, ab_cl, ab_pop, ab_sz, ab_2, ab_ret, ab_f4, ab_tg, ab_I, ab_II, ab_A, ab_Rf, ab_VR, ab_IR, ab_VIR, ab_1, ab_LL, ab_DD, ab_ob, ab_pr, ab_qr, ab_ln, ab_so, ab_vI, ab_vA, ab_vD, ab_vL, ab_v2, ab_c, ab_fit, ab_rv, ab_tsw, ab_lsw, ab_up_eq, Fin.isValue, ab_f0, ab_f1, ab_f2, ab_f3, List.getElem?_cons_zero, List.getElem?_cons_succ, List.set_cons_zero, List.set_cons_succ, List.length_cons, List.length_nil, List.size_toArray, List.head?_cons, List.tail_cons, Option.map_some, cond_true, cond_false, true_and, and_true, false_and, and_false, not_true_eq_false, not_false_eq_true, true_imp_iff, false_imp_iff, if_true, if_false, ite_true, ite_false, ↓reduceIte, Nat.reduceAdd, Nat.reduceEqDiff, Nat.reduceLeDiff, Nat.reduceLT, Nat.reduceBEq, Nat.reduceBNe, Int.reduceAdd, Int.reduceNeg, Int.reduceSub, Int.reduceLE, Int.reduceLT, Int.reduceToNat, Int.reduceEq, Int.reduceMul, Int.cast_ofNat_Int, Nat.zero_add, Nat.add_zero, Nat.le_refl, eq_self, ne_eq, reduceCtorEq, or_true, true_or, or_false, false_or, Bool.or_true, Bool.or_false, Bool.true_or, Bool.false_or, Nat.zero_le, Int.le_refl, Int.ofNat_zero, Int.ofNat_one, Bool.false_eq_true]
      try simp only [ab_in]
      (repeat' (first | intro _ | refine And.intro ?_ ?_)) <;> (first | exact hk2 | contradiction | omega | (exfalso; omega))
    · have i0 := outer 61 0 none none h M 0 0 (by omega) (by rw [stormS, if_neg hfo]) (by omega) hA ab_fo.rf (by omega) (by omega)
      refine hV (fun p => bif p == 12 then true else bif p == 35 then true else p == 104) 80 _ _ _ _ _ _ ?_
      simp only [hfo, bI_in, bI_0, bI_1, bI_t, bI_f, bI_01, ae_iconst, ae_if_icmp, ae_iload_n, ae_ireturn, ae_istore, ae_istore_n, dX4_storm_0, dX4_storm_1, dX4_storm_2, dX4_storm_5, dX4_storm_6, dX4_storm_7, dX4_storm_8, dX4_storm_9, dX4_storm_10, ca_X4_storm_39, ca_X4_storm_43, ab_wp0, ab_wps, ab_stp, ab_g, ab_st, ab_k2, ab_cl, ab_pop, ab_sz, ab_2, ab_ret, ab_f4, ab_tg, ab_I, ab_II, ab_A, ab_Rf, ab_VR, ab_IR, ab_VIR, ab_1, ab_LL, ab_DD, ab_ob, ab_pr, ab_qr, ab_ln, ab_so, ab_vI, ab_vA, ab_vD, ab_vL, ab_v2, ab_c, ab_fit, ab_rv, ab_tsw, ab_lsw, ab_up_eq, Fin.isValue, ab_f0, ab_f1, ab_f2, ab_f3, List.getElem?_cons_zero, List.getElem?_cons_succ, List.set_cons_zero, List.set_cons_succ, List.length_cons, List.length_nil, List.size_toArray, List.head?_cons, List.tail_cons, Option.map_some, cond_true, cond_false, true_and, and_true, false_and, and_false, not_true_eq_false, not_false_eq_true, true_imp_iff, false_imp_iff, if_true, if_false, ite_true, ite_false, ↓reduceIte, Nat.reduceAdd, Nat.reduceEqDiff, Nat.reduceLeDiff, Nat.reduceLT, Nat.reduceBEq, Nat.reduceBNe, Int.reduceAdd, Int.reduceNeg, Int.reduceSub, Int.reduceLE, Int.reduceLT, Int.reduceToNat, Int.reduceEq, Int.reduceMul, Int.cast_ofNat_Int, Nat.zero_add, Nat.add_zero, Nat.le_refl, eq_self, ne_eq, reduceCtorEq, or_true, true_or, or_false, false_or, Bool.or_true, Bool.or_false, Bool.true_or, Bool.false_or, Nat.zero_le, Int.le_refl, Int.ofNat_zero, Int.ofNat_one, Bool.false_eq_true]
      try simp only [ab_in]
      (repeat' (first | intro _ | refine And.intro ?_ ?_)) <;> (first | exact i0 | contradiction | omega | (exfalso; omega))
  · exact hT.elim
set_option maxRecDepth 100000 in
theorem con_X4_storm (l : Launch) (D : va_G) (ty : Nat → ClassId) (base : Nat) : ab_Con l D vwCl ty lw_ts base lw_wd yX4_storm cX4_storm 7 (some .int) 3 72 61 12200 Tr_X4_storm :=
  ab_con_of (own := RX4) (rt := 1) (tb := tbX4) (ini := false) (ca := ca_X4_storm) (by decide +kernel) rfl (fun h => by cases h) rfl lw_wd_ok wtbX4 lw_ar cm_X4_storm
    (fun p e R s m args below meth c K hcx => by
      obtain ⟨hx, hb, hml, hown, hF, rfl⟩ := hcx
      exact ab_lk_all (ab_all_c (ab_tc_V hx hb hml hown lw_wd_ok hF ⟨rfl, rfl⟩ (con_X4_lift l D ty base) rfl (lw_wi (by decide +kernel) (by decide +kernel)) (lw_wi (by decide +kernel) (by decide +kernel)) (lw_wi (by decide +kernel) (by decide +kernel)) (lw_wi (by decide +kernel) (by decide +kernel)) (lw_wi (by decide +kernel) (by decide +kernel)) (by decide +kernel) ⟨by decide, by decide⟩) (ab_all_c (ab_tc_V hx hb hml hown lw_wd_ok hF ⟨rfl, rfl⟩ (con_X4_hold l D ty base) rfl (lw_wi (by decide +kernel) (by decide +kernel)) (lw_wi (by decide +kernel) (by decide +kernel)) (lw_wi (by decide +kernel) (by decide +kernel)) (lw_wi (by decide +kernel) (by decide +kernel)) (lw_wi (by decide +kernel) (by decide +kernel)) (by decide +kernel) ⟨by decide, by decide⟩) (ab_all_n))))
    (by intro as h K ht; unfold Tr_X4_storm at ht; split at ht <;> first | exact ht.elim | exact Nat.le_of_ble_eq_true rfl) (sem_X4_storm base)
