/-! ===== clone of an array of ints, arraycopy between two ===== -/
def Tr_clone : ATr := fun as h K => match as with
  | [.inr (.inl (some a))] => ab_pr (h a) fun t n f => (t = 0 ∧ n ≤ 1200) ∧ ∀ q, h q = none → K (some (.inr (.inl (some q)))) (ab_up h q (.inr (.inl (0, n, f))))
  | _ => False
theorem Tr_clone_mo : ab_mo Tr_clone := by
  intro as h K K' hk ht
  unfold Tr_clone at ht ⊢
  split at ht
  · exact ab_pr_mo (fun t n f q => ⟨q.1, fun x hx => hk _ _ (q.2 x hx)⟩) ht
  · exact ht.elim
def Tr_copy : ATr := fun as h K => match as with
  | [.inr (.inl (some s)), .inl sp, .inr (.inl (some d)), .inl dp, .inl n] => ab_pr (h s) fun t0 n0 f => ab_pr (h d) fun t1 n1 g => (t0 = 0 ∧ t1 = 0 ∧ s ≠ d ∧ 0 ≤ sp ∧ 0 ≤ dp ∧ 0 ≤ n ∧ sp + n ≤ n0 ∧ dp + n ≤ n1 ∧ n0 ≤ 1200 ∧ n1 ≤ 1200) ∧ K none (ab_up h d (.inr (.inl (0, n1, fun j => if dp ≤ j ∧ j < dp + n then f (sp + (j - dp)) else g j))))
  | _ => False
theorem Tr_copy_mo : ab_mo Tr_copy := by
  intro as h K K' hk ht
  unfold Tr_copy at ht ⊢
  split at ht
  · exact ab_pr_mo (fun t n f q => ab_pr_mo (fun t n f q => ⟨q.1, hk _ _ q.2⟩) q) ht
  · exact ht.elim
section ABN
variable {p : Program} {l : Launch} {e : Env} {R : Room} {s : State} {m : MethodId} {args : Array Value} {below : List Frame} {meth : Method} {c : Code} {D : va_G} {cl : List vw_C} {ty : Nat → ClassId} {ts : List Nat} {base : Nat} {wd : List Jvm.Cond} {nL MC MS : Nat} {QQ : State → Prop} {cc : ByteArray}
theorem ab_tc_clone (hx : p.tables.exec = Jvm.exec) (hb : c.code = cc) (hml : c.maxLocals = nL) {own : String} (hown : s.vm.findClass own = some m.cls) (hwd : ∀ w ∈ wd, ab_ok w = true) (hF : ab_F D cl ty ts wd s) (hRC : R.cells = MC ∧ R.slots = MS) {i : Nat}
    (w1 : Jvm.Cond.methodLink own i ⟨"[I", "clone", "()Ljava/lang/Object;"⟩ ∈ wd) (w2 : Jvm.Cond.sameMethod "[I" "java/lang/Object" "clone" "()Ljava/lang/Object;" ∈ wd) (w3 : Jvm.Cond.native ⟨"java/lang/Object", "clone", "()Ljava/lang/Object;"⟩ ∈ wd) (w4 : Jvm.Cond.instanceMethod ⟨"java/lang/Object", "clone", "()Ljava/lang/Object;"⟩ ∈ wd) (w5 : Jvm.Cond.selects "[I" ⟨"[I", "clone", "()Ljava/lang/Object;"⟩ ⟨"java/lang/Object", "clone", "()Ljava/lang/Object;"⟩ ∈ wd) (w6 : Jvm.Cond.castable "[I" "java/lang/Cloneable" ∈ wd) (hfr : 1 ≤ R.frames) (hlo : 22 ≤ R.locals) :
    ab_TC1 p l e R s m args below meth c D cl ty ts base nL MC MS QQ cc i (3, 0, 1, 1, 1200, Tr_clone) := by
  intro pc ls as r h k z Kc hdc hlen hsz hk hz hrv hTr hcont H locs lsA hR hS hL hk0 hz0
  have hTr' : Tr_clone as h Kc := hTr
  unfold Tr_clone at hTr'
  split at hTr'
  · rename_i a
    obtain ⟨t, n, f, ha, ⟨rfl, hn⟩, hK⟩ := ab_pr_el hTr'
    obtain ⟨q1, q2⟩ := hR.2 a _ ha
    have hm : 0 ∈ ts ∧ base ≤ a := by rcases q2 with q | q; cases q; exact q
    obtain ⟨hA0, hf0⟩ : ab_T s 0 (ty 0) := hF.2.1 0 hm.1
    have hc : H[a]? = some (arrV (ty 0) n (fun j => .int (Int32.ofInt (f (j : Int))))) := q1
    obtain ⟨c0, t0', f1, f2, f3⟩ := Cond.castable_spec (ab_hw (args := args) hwd hF w6)
    have hnm : s.vm.findClass "[I" = some (ty 0) := hf0
    cases hnm.symm.trans f1
    have hsz9 := ab_szs (m := m) r
    have hm0 : (F0 m 0 #[] []).monitorRoom = 0 := rfl
    rw [hm0] at hsz9
    have hsz8 : ab_sz r ≤ 8 := hsz
    intro T hT X
    have hcellT : T.heap[a]? = some (arrV (ty 0) n (fun j => .int (Int32.ofInt (f (j : Int))))) := by rw [hT]; exact hc
    obtain ⟨-, kA, hkA, comp, hkind⟩ := State.isArrayOf_alike X.warmed.alike (hA0 0 (fun _ => .null))
    obtain ⟨-, kS, hkS, compS, hkindS⟩ := hA0 0 (fun _ => .null)
    obtain ⟨vm', X', st⟩ := X.cloneArray hx hown (ab_hw hwd hF w1) (ab_hw hwd hF w2) (ab_hw hwd hF w3) (ab_hw hwd hF w4) (ab_hw hwd hF w5) (a := a) (cell := arrV (ty 0) n (fun j => .int (Int32.ofInt (f (j : Int))))) hcellT (fun k h => by cases h) (fun h => by cases h) hnm f2 f3
      (fun i v hv => by
        have hk' : T.vm.classes[ty 0]? = some kA := hkA
        have := va_fit (ty := .int) (fun j _ => rfl) i v hv
        show T.fitsSlot (ty 0) .none i v = true
        have hkind' : kA.kind = .array comp .int := hkind
        simpa [State.fitsSlot, State.slotType?, hk', hkind'] using this)
      (g := F0 m pc lsA (.ref a :: r.map ab_v)) rfl (by rw [hml]; exact hL.1) rfl (by rw [hb]; exact hdc) hfr (by show 2 * 0 + _ + 14 ≤ _; omega) (by rw [hRC.1]; exact hk) (by rw [arrV_size, hRC.2]; exact Nat.le_trans (Nat.add_le_add_left hn z) hz) (hloader := Vm.clonesLoader_of_array hkS hkindS)
    rw [arrV_size] at X'
    have hcellE : ({ cls := (arrV (ty 0) n (fun j => .int (Int32.ofInt (f (j : Int))))).cls, slots := (arrV (ty 0) n (fun j => .int (Int32.ofInt (f (j : Int))))).slots } : Cell) = arrV (ty 0) n (fun j => .int (Int32.ofInt (f (j : Int)))) := rfl
    rw [hcellE] at X'
    generalize hH1 : H.push (arrV (ty 0) n (fun j => .int (Int32.ofInt (f (j : Int))))) = H1
    have z1 : H1.size = H.size + 1 := by rw [← hH1, Array.size_push]
    have e1 : H1[H.size]? = some (arrV (ty 0) n (fun j => .int (Int32.ofInt (f (j : Int))))) := by rw [← hH1, Array.getElem?_push_size]
    have o1 : ∀ q : Nat, q < H.size → H1[q]? = H[q]? := fun q hq => by rw [← hH1, Array.getElem?_push, if_neg (Nat.ne_of_lt hq)]
    have hW := hcont _ _ (hK H.size hR.fresh) H1 locs lsA (hR.push z1 o1 e1 (Or.inr ⟨hm.1, hR.1⟩)) ⟨Nat.le_trans hS.1 (by omega), fun q hq hq2 => (o1 q (Nat.lt_of_lt_of_le hq hS.1)).trans (hS.2.1 q hq hq2), hS.2.2⟩ hL hk hz
    obtain ⟨t9, b1, b2⟩ := hW ((T.setVm vm').pushCell (arrV (ty 0) n (fun j => .int (Int32.ofInt (f (j : Int)))))) (by rw [← hH1, ← hT]; rfl) (stand_widen X' (Nat.le_refl _) (Nat.add_le_add_left hn z))
    refine ⟨t9, st t9 ?_, b2⟩
    rw [hcellE, hT]
    exact b1
  · exact hTr'.elim
theorem ab_tc_copy (hx : p.tables.exec = Jvm.exec) (hb : c.code = cc) (hml : c.maxLocals = nL) {own : String} (hown : s.vm.findClass own = some m.cls) (hwd : ∀ w ∈ wd, ab_ok w = true) (hF : ab_F D cl ty ts wd s) (hRC : R.cells = MC ∧ R.slots = MS) {i : Nat}
    (w1 : Jvm.Cond.methodLink own i arraycopyName ∈ wd) (w2 : Jvm.Cond.native arraycopyName ∈ wd) (w3 : Jvm.Cond.static arraycopyName ∈ wd) (w4 : Jvm.Cond.initialized "java/lang/System" ∈ wd) (hfr : 1 ≤ R.frames) (hlo : 8 + (nativeFrameWords "java/lang/System" "arraycopy" 5 + 11) ≤ R.locals) :
    ab_TC1 p l e R s m args below meth c D cl ty ts base nL MC MS QQ cc i (2, 0, 5, 0, 0, Tr_copy) := by
  intro pc ls as r h k z Kc hdc hlen hsz hk hz hrv hTr hcont H locs lsA hR hS hL hk0 hz0
  have hTr' : Tr_copy as h Kc := hTr
  unfold Tr_copy at hTr'
  split at hTr'
  · rename_i sa sp da dp n
    obtain ⟨t0, n0, f, ha0, hT1⟩ := ab_pr_el hTr'
    obtain ⟨t1, n1, g, ha1, ⟨rfl, rfl, hne, hsp, hdp, hn, hb1, hb2, hn0, hn1⟩, hK⟩ := ab_pr_el hT1
    obtain ⟨q1, q2⟩ := hR.2 sa _ ha0
    obtain ⟨q3, q4⟩ := hR.2 da _ ha1
    have hm : 0 ∈ ts ∧ base ≤ da := by rcases q4 with q | q; cases q; exact q
    obtain ⟨hA0, hf0⟩ : ab_T s 0 (ty 0) := hF.2.1 0 hm.1
    have hc0 : H[sa]? = some (vp_cell (ty 0) (n0, .inl (fun j => Int32.ofInt (f (j : Int))))) := q1
    have hc1 : H[da]? = some (vp_cell (ty 0) (n1, .inl (fun j => Int32.ofInt (g (j : Int))))) := q3
    have cv : ∀ v : Int, 0 ≤ v → v ≤ 1200 → ¬ Int32.ofInt v < 0 ∧ (Int32.ofInt v).toNatClampNeg = v.toNat ∧ (Int32.ofInt v).toInt = v := by
      intro v h0 h1
      have e2 : (Int32.ofInt v).toInt = v := ab_int ⟨by omega, by omega⟩
      refine ⟨fun hq => ?_, Int32.toNatClampNeg_ofInt_of_le (by omega) (by omega), e2⟩
      rw [Int32.lt_iff_toInt_lt, e2] at hq
      have : (0 : Int32).toInt = 0 := rfl
      omega
    obtain ⟨s1, s2, s3⟩ := cv sp hsp (by omega)
    obtain ⟨d1, d2, d3⟩ := cv dp hdp (by omega)
    obtain ⟨m1, m2, m3⟩ := cv n hn (by omega)
    have hsz9 := ab_szs (m := m) r
    have hm0 : (F0 m 0 #[] []).monitorRoom = 0 := rfl
    rw [hm0] at hsz9
    have hsz8 : ab_sz r ≤ 8 := hsz
    intro T hT X
    obtain ⟨-, k0, hk0, cm0, hkk0⟩ := hA0 n0 (fun j => .int (Int32.ofInt (f (j : Int))))
    obtain ⟨vm', X', step⟩ := X.arraycopy hx hown (ab_hw hwd hF w1) (ab_hw hwd hF w2) (ab_hw hwd hF w3) (ab_hw hwd hF w4) (src := sa) (dst := da) (cs := vp_cell (ty 0) (n0, .inl (fun j => Int32.ofInt (f (j : Int))))) (cd := vp_cell (ty 0) (n1, .inl (fun j => Int32.ofInt (g (j : Int))))) (srcPos := Int32.ofInt sp) (destPos := Int32.ofInt dp) (n := Int32.ofInt n) (by rw [hT]; exact hc0) (by rw [hT]; exact hc1)
      (fun _ h => by cases h) (fun _ h => by cases h) (fun h => by cases h) (fun h => by cases h) hk0 hk0 hkk0 hkk0 (by simp [refKind]) s1 d1 m1
      (by rw [s3, m3]; show ¬ _ > ((arrV (ty 0) n0 _).slots.size : Int); rw [arrV_size]; omega)
      (by rw [d3, m3]; show ¬ _ > ((arrV (ty 0) n1 _).slots.size : Int); rw [arrV_size]; omega)
      (fun vm₁ _ i hi => by
        have e : (vp_cell (ty 0) (n0, .inl (fun j => Int32.ofInt (f (j : Int))))).slots.getD ((Int32.ofInt sp).toNatClampNeg + i) .null = .int (Int32.ofInt (f (((Int32.ofInt sp).toNatClampNeg + i : Nat) : Int))) := by
          show (arrV (ty 0) n0 (fun j => .int (Int32.ofInt (f (j : Int))))).slots.getD _ _ = _
          rw [Array.getD_eq_getD_getElem?, arrV_read _ _ (by rw [s2]; rw [m2] at hi; omega)]
          rfl
        refine ⟨?_, ?_⟩
        · rw [e]; rfl
        · rw [e]
          exact trivial)
      (g := F0 m pc lsA (.int (Int32.ofInt n) :: .int (Int32.ofInt dp) :: .ref da :: .int (Int32.ofInt sp) :: .ref sa :: r.map ab_v)) rfl (by rw [hml]; exact hL.1) (rest := r.map ab_v) rfl (by rw [hb]; exact hdc) hfr (by show 2 * 0 + _ + _ ≤ _; omega)
    have e1 : copied (vp_cell (ty 0) (n0, .inl (fun j => Int32.ofInt (f (j : Int))))) (vp_cell (ty 0) (n1, .inl (fun j => Int32.ofInt (g (j : Int))))) (Int32.ofInt sp) (Int32.ofInt dp) (Int32.ofInt n) = arrV (ty 0) n1 (fun j => .int (Int32.ofInt ((fun j => if dp ≤ j ∧ j < dp + n then f (sp + (j - dp)) else g j) (j : Int)))) := by
      have e0 : copied (vp_cell (ty 0) (n0, .inl (fun j => Int32.ofInt (f (j : Int))))) (vp_cell (ty 0) (n1, .inl (fun j => Int32.ofInt (g (j : Int))))) (Int32.ofInt sp) (Int32.ofInt dp) (Int32.ofInt n) = vp_cell (ty 0) (n1, .inl (va_cpy (fun j => Int32.ofInt (f (j : Int))) (fun j => Int32.ofInt (g (j : Int))) (Int32.ofInt sp).toNatClampNeg (Int32.ofInt dp).toNatClampNeg (Int32.ofInt n).toNatClampNeg)) := va_copied (fun z => .int z) (ty 0) (ty 0) (fun j => Int32.ofInt (f (j : Int))) (fun j => Int32.ofInt (g (j : Int))) (by rw [s2, m2]; omega)
      rw [e0, vp_cell_i]
      congr 1
      funext j
      simp only [va_cpy, s2, d2, m2]
      by_cases hj : dp.toNat ≤ j ∧ j < dp.toNat + n.toNat
      · rw [if_pos hj, if_pos (by omega)]
        congr 2
        congr 1
        omega
      · rw [if_neg hj, if_neg (by omega)]
    rw [e1] at X' step
    have hl : da < H.size := (Array.getElem?_eq_some_iff.mp hc1).1
    generalize hH1 : H.setIfInBounds da (arrV (ty 0) n1 (fun j => .int (Int32.ofInt ((fun j => if dp ≤ j ∧ j < dp + n then f (sp + (j - dp)) else g j) (j : Int))))) = H1
    have oq : ∀ q : Nat, q ≠ da → H1[q]? = H[q]? := fun q hq => by rw [← hH1]; simp [Array.getElem?_setIfInBounds, Ne.symm hq]
    have z1 : H1.size = H.size := by rw [← hH1]; simp
    have eH : H1[da]? = some (arrV (ty 0) n1 (fun j => .int (Int32.ofInt ((fun j => if dp ≤ j ∧ j < dp + n then f (sp + (j - dp)) else g j) (j : Int))))) := by rw [← hH1]; simp [Array.getElem?_setIfInBounds, hl]
    obtain ⟨t, a1, b1⟩ := hcont _ _ hK H1 _ lsA (hR.put z1 oq eH (Or.inr hm)) ⟨by rw [z1]; exact hS.1, fun q g1 g2 => by
        rw [oq q (fun e => g2 (by rw [e]; exact hm.2))]
        exact hS.2.1 q g1 g2, fun q hq => by
        rcases List.mem_append.mp hq with h | h
        · exact hS.2.2 q h
        · obtain ⟨z, -, hz⟩ := List.mem_map.mp h
          rw [← hz]
          exact hm.2⟩ hL hk hz _ (by rw [← hH1, ← hT]; rfl) X'
    exact ⟨t, step t a1, b1⟩
  · exact hTr'.elim
end ABN
