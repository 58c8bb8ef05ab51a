/-! ===== the abstract machine is the kit's: what it says of a text holds of the machine ===== -/
def ab_v : AV → Value
  | .inl v => .int (Int32.ofInt v)
  | .inr (.inl r) => va_rf r
  | .inr (.inr (.inl v)) => .long (Int64.ofInt v)
  | .inr (.inr (.inr d)) => .double d
theorem ab_cat (v : AV) : (ab_v v).category = if ab_2 v then 2 else 1 := by
  rcases v with v | r | v | d
  · rfl
  · cases r <;> rfl
  · rfl
  · rfl
def ab_E (ty : Nat → ClassId) : AC → va_E
  | .inl (ci, fs) => .inr (ci, fs.map ab_v)
  | .inr (.inl (t, n, f)) => if t = 2 then .inl (ty 2, n, .inr (.inl fun j => Int64.ofInt (f (j : Int)))) else .inl (ty t, n, .inl fun j => Int32.ofInt (f (j : Int)))
  | .inr (.inr (t, n, f)) => .inl (ty t, n, .inr (.inr (.inr (.inr fun j => f (j : Int)))))
def ab_T (U : State) (t : Nat) (c : ClassId) : Prop := match t with
  | 0 => ArrOfT U c .int ∧ U.vm.findClass ("[" ++ FieldType.int.toString) = some c
  | 1 => ArrOfT U c .boolean ∧ U.vm.findClass ("[" ++ FieldType.boolean.toString) = some c
  | 2 => ArrOfT U c .long ∧ U.vm.findClass ("[" ++ FieldType.long.toString) = some c
  | 3 => ArrOfT U c (.array .int) ∧ U.vm.findClass ("[" ++ (FieldType.array .int).toString) = some c ∧ ∃ (kA : Class) (comp : ClassId), U.vm.classes[c]? = some kA ∧ kA.kind = .array comp (.array .int) ∧ U.vm.findClass ("[" ++ FieldType.int.toString) = some comp
  | _ => False
theorem ab_T.moved {u U : State} (hvm : u.vm.Alike U.vm) {t : Nat} {c : ClassId} (h : ab_T u t c) : ab_T U t c := by
  match t, h with
  | 0, h => exact ⟨arrOfT_moved hvm h.1, by rw [hvm.findClass]; exact h.2⟩
  | 1, h => exact ⟨arrOfT_moved hvm h.1, by rw [hvm.findClass]; exact h.2⟩
  | 2, h => exact ⟨arrOfT_moved hvm h.1, by rw [hvm.findClass]; exact h.2⟩
  | 3, h =>
    obtain ⟨h1, h2, kA, comp, k1, k2, k3⟩ := h
    obtain ⟨k', hk', he⟩ := hvm.2.2 _ _ k1
    exact ⟨arrOfT_moved hvm h1, by rw [hvm.findClass]; exact h2, k', comp, hk', by rw [he]; exact k2, by rw [hvm.findClass]; exact k3⟩
theorem ab_sr_warm {own tx : String} {k : Nat} {A B : Array Value} {s U : State} (hW : s.WarmedH U.vm) (h : (Jvm.Cond.stringRef own k tx).before A s = true) : (Jvm.Cond.stringRef own k tx).before B U = true := by
  have hcur : ∃ cur, s.vm.findClass own = some cur := by
    have h1 := h
    simp only [Jvm.Cond.before, Jvm.Cond.holds, Jvm.Cond.value] at h1
    cases hc : s.vm.findClass own with
    | none => simp [hc] at h1
    | some cur => exact ⟨cur, rfl⟩
  obtain ⟨cur, hcur⟩ := hcur
  obtain ⟨-, -, -, a, -, -, -, -, -, e⟩ := Cond.stringRef_spec (o := none) (first := s) (idx := []) hcur h
  exact (vk_R.warm hW (vk_R.of h e)).1
/-- words that stay true while the tables warm -/
def ab_ok (w : Jvm.Cond) : Bool := goodWord w || (match w with
  | .fieldLinkNest .. => true
  | .methodLinkNest .. => true
  | .castable .. => true
  | .declares .. => true
  | .stringRef .. => true
  | .arrayOver (.array .int) => true
  | _ => false)
theorem ab_ao_moved {u U : State} {A B : Array Value} (hvm : u.vm.Alike U.vm) (h : (Jvm.Cond.arrayOver (.array .int)).before A u = true) : (Jvm.Cond.arrayOver (.array .int)).before B U = true := by
  have h9 := h
  simp only [Jvm.Cond.before, Jvm.Cond.holds, Jvm.Cond.value, beq_iff_eq] at h9
  cases hc : u.vm.findClass (FieldType.array .int).toString with
  | none => simp [hc] at h9
  | some comp =>
    simp only [hc, Option.bind_some, Option.bind_eq_some_iff, Option.map_eq_some_iff] at h9
    obtain ⟨c, h2, k, hk, hbb⟩ := h9
    obtain ⟨hlt, hp, -⟩ := Array.findIdx?_eq_some_iff_getElem.mp h2
    have hkk : u.vm.classes[c] = k := (Array.getElem?_eq_some_iff.mp hk).2
    rw [hkk] at hp
    obtain ⟨k', hk', he⟩ := hvm.2.2 _ _ hk
    cases hkind0 : k.kind with
    | array component ty =>
      rw [hkind0] at hbb hp
      simp at hbb hp
      have hi : (U.vm.classes.findIdx? fun (x : Class) => match x.kind with | .array component _ => component == comp | _ => false) = some c := by
        have e3 : U.vm.bare = u.vm.bare := by first | exact hvm.bare_eq | exact hvm.bare_eq.symm
        have e4 := va_idx_bare U.vm comp
        rw [e3] at e4
        exact (e4.symm.trans (va_idx_bare u.vm comp)).trans h2
      have hkind : k'.kind = .array comp (.array .int) := by rw [he]; show k.kind = _; rw [hkind0, hp, hbb.1]
      have f1 : U.vm.findClass (FieldType.array .int).toString = some comp := by rw [hvm.findClass]; exact hc
      have f2 : U.vm.findClass ("[" ++ (FieldType.array .int).toString) = some c := by rw [hvm.findClass]; exact hbb.2
      unfold Jvm.Cond.before Jvm.Cond.holds
      simp only [Jvm.Cond.value]
      rw [f1, Option.bind_some]
      refine (congrArg (fun o : Option Nat => (o.bind (fun c => (U.vm.classes[c]?).map fun (k : Class) => match k.kind with | .array _ ty => decide (ty = FieldType.array .int) && decide (U.vm.findClass ("[" ++ (FieldType.array .int).toString) = some c) | _ => false) == some true)) hi).trans ?_
      simp [hk', hkind, f2]
    | _ => rw [hkind0] at hbb; simp at hbb
theorem ab_warm {args a' : Array Value} {s U : State} {w : Jvm.Cond} (hW : s.WarmedH U.vm) (hw : ab_ok w = true) (h : w.before args s = true) : w.before a' U = true := by
  unfold ab_ok at hw
  rcases Bool.or_eq_true _ _ |>.mp hw with h1 | h1
  · exact word_at hW (good_of_word h1) h
  · split at h1
    · exact va_Nw.use rfl (va_Nw.warmF hW (va_Nw.of rfl h))
    · exact va_Nw.use rfl (va_Nw.warmM hW (va_Nw.of rfl h))
    · exact va_Nw.use rfl (va_Nw.warmC hW (va_Nw.of rfl h))
    · exact va_Nw.use rfl (va_Nw.warmD hW (va_Nw.of rfl h))
    · exact ab_sr_warm hW h
    · exact ab_ao_moved hW.alike h
    · cases h1
def ab_F (D : va_G) (cl : List vw_C) (ty : Nat → ClassId) (ts : List Nat) (wd : List Jvm.Cond) (U : State) : Prop :=
  (∀ (c : Nat) (q : vw_C), cl[c]? = some q → u_Kn U q.1 q.2.1 q.2.2 (D.1 c) (D.2 c)) ∧ (∀ t ∈ ts, ab_T U t (ty t)) ∧ ∀ w ∈ wd, w.before #[] U = true
theorem ab_F.warm {D : va_G} {cl : List vw_C} {ty : Nat → ClassId} {ts : List Nat} {wd : List Jvm.Cond} {s U : State} (hwd : ∀ w ∈ wd, ab_ok w = true) (hW : s.WarmedH U.vm) (h : ab_F D cl ty ts wd s) : ab_F D cl ty ts wd U :=
  ⟨fun c q hq => u_Kn_moved hW.alike (h.1 c q hq), fun t ht => (h.2.1 t ht).moved hW.alike, fun w hw => ab_warm hW (hwd w hw) (h.2.2 w hw)⟩
def ab_ac (D : va_G) (cl : List vw_C) (ty : Nat → ClassId) (U : State) (a : Nat) (c : AC) (H : Heap) : Prop := match c with
  | .inr (.inl (t, n, f)) => if t = 9 then va_X a n (fun j => Int32.ofInt (f (j : Int))) U H else va_at D cl (a, ab_E ty (.inr (.inl (t, n, f)))) H
  | .inr (.inr q) => va_at D cl (a, ab_E ty (.inr (.inr q))) H
  | .inl q => va_at D cl (a, ab_E ty (.inl q)) H
def ab_kd (ts : List Nat) (base a : Nat) (c : AC) : Prop := match c with
  | .inr (.inl (t, _, _)) => t = 9 ∨ t ∈ ts ∧ base ≤ a
  | .inr (.inr (t, _, _)) => (t = 3 ∧ t ∈ ts) ∧ base ≤ a
  | .inl _ => base ≤ a
theorem ab_ac.kept {D : va_G} {cl : List vw_C} {ty : Nat → ClassId} {U : State} {a : Nat} {c : AC} {H H1 : Heap} (h : ab_ac D cl ty U a c H) (hq : H1[a]? = H[a]?) : ab_ac D cl ty U a c H1 := by
  rcases c with q | ⟨t, n, f⟩ | q
  · exact va_at.kept (show va_at D cl (a, ab_E ty (.inl q)) H from h) hq
  · simp only [ab_ac] at h ⊢
    split
    · rename_i ht; rw [if_pos ht] at h; exact va_X.kept h hq
    · rename_i ht; rw [if_neg ht] at h; exact va_at.kept h hq
  · exact va_at.kept (show va_at D cl (a, ab_E ty (.inr (.inr q))) H from h) hq
theorem ab_ac.moved {D : va_G} {cl : List vw_C} {ty : Nat → ClassId} {u U : State} (hvm : u.vm.Alike U.vm) {a : Nat} {c : AC} {H : Heap} (h : ab_ac D cl ty u a c H) : ab_ac D cl ty U a c H := by
  rcases c with q | ⟨t, n, f⟩ | q
  · exact h
  · simp only [ab_ac] at h ⊢
    split
    · rename_i ht; rw [if_pos ht] at h; exact va_X.moved hvm h
    · rename_i ht; rw [if_neg ht] at h; exact h
  · exact h
theorem ab_ac.lt {D : va_G} {cl : List vw_C} {ty : Nat → ClassId} {U : State} {a : Nat} {c : AC} {H : Heap} (h : ab_ac D cl ty U a c H) : a < H.size := by
  rcases c with q | ⟨t, n, f⟩ | q
  · exact va_at.lt (show va_at D cl (a, ab_E ty (.inl q)) H from h)
  · simp only [ab_ac] at h
    split at h
    · obtain ⟨scr, h1, -⟩ := h; exact (Array.getElem?_eq_some_iff.mp h1).1
    · exact va_at.lt h
  · exact va_at.lt (show va_at D cl (a, ab_E ty (.inr (.inr q))) H from h)
def ab_R (D : va_G) (cl : List vw_C) (ty : Nat → ClassId) (ts : List Nat) (base : Nat) (U : State) (h : AH) (H : Heap) : Prop :=
  base ≤ H.size ∧ ∀ a c, h a = some c → ab_ac D cl ty U a c H ∧ ab_kd ts base a c
section ABR
variable {D : va_G} {cl : List vw_C} {ty : Nat → ClassId} {ts : List Nat} {base : Nat}
theorem ab_R.moved {u U : State} (hvm : u.vm.Alike U.vm) {h : AH} {H : Heap} (hR : ab_R D cl ty ts base u h H) : ab_R D cl ty ts base U h H :=
  ⟨hR.1, fun a c hc => ⟨(hR.2 a c hc).1.moved hvm, (hR.2 a c hc).2⟩⟩
theorem ab_R.put {U : State} {h : AH} {H H1 : Heap} {a : Nat} {c' : AC} (hR : ab_R D cl ty ts base U h H) (z : H1.size = H.size) (oq : ∀ q : Nat, q ≠ a → H1[q]? = H[q]?) (h1 : ab_ac D cl ty U a c' H1) (h2 : ab_kd ts base a c') : ab_R D cl ty ts base U (ab_up h a c') H1 := by
  refine ⟨by rw [z]; exact hR.1, fun b c hc => ?_⟩
  unfold ab_up at hc
  split at hc
  · rename_i hb; subst hb; cases hc; exact ⟨h1, h2⟩
  · rename_i hb; exact ⟨(hR.2 b c hc).1.kept (oq b hb), (hR.2 b c hc).2⟩
theorem ab_R.push {U : State} {h : AH} {H H1 : Heap} {c' : AC} (hR : ab_R D cl ty ts base U h H) (z : H1.size = H.size + 1) (oq : ∀ q : Nat, q < H.size → H1[q]? = H[q]?) (h1 : ab_ac D cl ty U H.size c' H1) (h2 : ab_kd ts base H.size c') : ab_R D cl ty ts base U (ab_up h H.size c') H1 := by
  refine ⟨by rw [z]; exact Nat.le_succ_of_le hR.1, fun b c hc => ?_⟩
  unfold ab_up at hc
  split at hc
  · rename_i hb; subst hb; cases hc; exact ⟨h1, h2⟩
  · exact ⟨(hR.2 b c hc).1.kept (oq b (hR.2 b c hc).1.lt), (hR.2 b c hc).2⟩
theorem ab_R.fresh {U : State} {h : AH} {H : Heap} (hR : ab_R D cl ty ts base U h H) : h H.size = none := by
  cases hc : h H.size with
  | none => rfl
  | some c => exact absurd (hR.2 _ _ hc).1.lt (Nat.lt_irrefl _)
end ABR
def ab_L (lsA : Array Slot) (nL : Nat) (ls : ALs) : Prop := lsA.size = nL ∧ lv_wf lsA ∧ ls.length ≤ nL ∧ ∀ i v, ab_g ls i = some v → lsA[i]? = some (.val (ab_v v))
def ab_as (ls : ALs) : List (Nat × Value) := (List.range ls.length).filterMap (fun j => (ab_g ls j).map (fun w => (j, ab_v w)))
theorem ab_g_lt {ls : ALs} : ∀ {i : Nat} {v : AV}, ab_g ls i = some v → i < ls.length := by
  induction ls with
  | nil => intro i v h; cases h
  | cons x l ih =>
    intro i v h
    cases i with
    | zero => exact Nat.succ_pos _
    | succ n => exact Nat.succ_lt_succ (ih h)
theorem ab_as_mem {ls : ALs} {j : Nat} {w : AV} (h : ab_g ls j = some w) : (j, ab_v w) ∈ ab_as ls :=
  List.mem_filterMap.mpr ⟨j, List.mem_range.mpr (ab_g_lt h), by rw [h]; rfl⟩
theorem ab_as_of {ls : ALs} {q : Nat × Value} (h : q ∈ ab_as ls) : ∃ w, ab_g ls q.1 = some w ∧ q.2 = ab_v w := by
  obtain ⟨j, -, h2⟩ := List.mem_filterMap.mp h
  cases hg : ab_g ls j with
  | none => rw [hg] at h2; cases h2
  | some w => rw [hg] at h2; cases h2; exact ⟨w, hg, rfl⟩
theorem ab_L.has {lsA : Array Slot} {nL : Nat} {ls : ALs} (h : ab_L lsA nL ls) : lv_has lsA nL (ab_as ls) :=
  ⟨h.1, h.2.1, fun q hq => by obtain ⟨w, h1, h2⟩ := ab_as_of hq; rw [h2]; exact h.2.2.2 _ _ h1⟩
theorem ab_st_len {ls ls' : ALs} : ∀ {i : Nat} {v : AV}, ab_st ls i v = some ls' → ls'.length = ls.length ∧ i < ls.length := by
  induction ls generalizing ls' with
  | nil => intro i v h; cases h
  | cons x l ih =>
    intro i v h
    cases i with
    | zero => cases h; exact ⟨rfl, Nat.succ_pos _⟩
    | succ n =>
      simp only [ab_st] at h
      cases hs : ab_st l n v with
      | none => rw [hs] at h; cases h
      | some l' =>
        rw [hs] at h
        cases h
        obtain ⟨h1, h2⟩ := ih hs
        exact ⟨by simp [h1], Nat.succ_lt_succ h2⟩
theorem ab_st_g {ls ls' : ALs} : ∀ {i : Nat} {v : AV}, ab_st ls i v = some ls' → ∀ j w, ab_g ls' j = some w → (j = i ∧ w = v) ∨ (j ≠ i ∧ ab_g ls j = some w ∧ ¬ (j + 1 = i ∧ ab_2 w = true)) := by
  induction ls generalizing ls' with
  | nil => intro i v h; cases h
  | cons x l ih =>
    intro i v h
    cases i with
    | zero =>
      cases h
      intro j w hj
      cases j with
      | zero => cases hj; exact Or.inl ⟨rfl, rfl⟩
      | succ j => exact Or.inr ⟨by omega, hj, by omega⟩
    | succ n =>
      simp only [ab_st] at h
      cases hs : ab_st l n v with
      | none => rw [hs] at h; cases h
      | some l' =>
        rw [hs] at h
        cases h
        intro j w hj
        cases j with
        | zero =>
          simp only [ab_g] at hj ⊢
          split at hj
          · rename_i hn
            unfold ab_k2 at hj
            split at hj
            · cases hj
            · rename_i hx
              refine Or.inr ⟨by omega, hj, fun hc => ?_⟩
              rcases w with w | w | w
              · cases hc.2
              · cases hc.2
              · exact hx w hj
          · rename_i hn
            exact Or.inr ⟨by omega, hj, by omega⟩
        | succ j =>
          rcases ih hs j w hj with ⟨h1, h2⟩ | ⟨h1, h2, h3⟩
          · exact Or.inl ⟨by omega, h2⟩
          · exact Or.inr ⟨by omega, h2, fun hc => h3 ⟨by omega, hc.2⟩⟩
/-- behind a store of one slot -/
theorem ab_L.set {lsA lsB : Array Slot} {nL : Nat} {ls ls' : ALs} {i : Nat} {v : AV} (h : ab_L lsA nL ls) (hs : ab_st ls i v = some ls') (hB : lv_has lsB nL ((i, ab_v v) :: (ab_as ls).filter (fun q => !(q.1 == i) && !(q.1 + 1 == i && q.2.category == 2)))) : ab_L lsB nL ls' := by
  refine ⟨hB.1, hB.2.1, by rw [(ab_st_len hs).1]; exact h.2.2.1, fun j w hj => ?_⟩
  rcases ab_st_g hs j w hj with ⟨h1, h2⟩ | ⟨h1, h2, h3⟩
  · rw [h1, h2]; exact hB.2.2 (i, ab_v v) List.mem_cons_self
  · refine hB.2.2 (j, ab_v w) (List.mem_cons_of_mem _ (List.mem_filter.mpr ⟨ab_as_mem h2, ?_⟩))
    simp only [Bool.and_eq_true, Bool.not_eq_true', beq_eq_false_iff_ne, ne_eq, Bool.and_eq_false_iff]
    refine ⟨h1, ?_⟩
    by_cases hji : j + 1 = i
    · right
      rw [ab_cat]
      cases h2w : ab_2 w
      · decide
      · exact absurd ⟨hji, h2w⟩ h3
    · left; exact hji
theorem ab_cl_len {ls ls' : ALs} : ∀ {i : Nat}, ab_cl ls i = some ls' → ls'.length = ls.length ∧ i < ls.length := by
  induction ls generalizing ls' with
  | nil => intro i h; cases h
  | cons x l ih =>
    intro i h
    cases i with
    | zero => cases h; exact ⟨rfl, Nat.succ_pos _⟩
    | succ n =>
      simp only [ab_cl] at h
      cases hs : ab_cl l n with
      | none => rw [hs] at h; cases h
      | some l' =>
        rw [hs] at h
        cases h
        obtain ⟨h1, h2⟩ := ih hs
        exact ⟨by simp [h1], Nat.succ_lt_succ h2⟩
theorem ab_cl_g {ls ls' : ALs} : ∀ {i : Nat}, ab_cl ls i = some ls' → ∀ j w, ab_g ls' j = some w → j ≠ i ∧ ab_g ls j = some w := by
  induction ls generalizing ls' with
  | nil => intro i h; cases h
  | cons x l ih =>
    intro i h
    cases i with
    | zero =>
      cases h
      intro j w hj
      cases j with
      | zero => cases hj
      | succ j => exact ⟨by omega, hj⟩
    | succ n =>
      simp only [ab_cl] at h
      cases hs : ab_cl l n with
      | none => rw [hs] at h; cases h
      | some l' =>
        rw [hs] at h
        cases h
        intro j w hj
        cases j with
        | zero => exact ⟨by omega, hj⟩
        | succ j => exact ⟨by have := (ih hs j w hj).1; omega, (ih hs j w hj).2⟩
/-- behind a store of two slots -/
theorem ab_L.set2 {lsA lsB : Array Slot} {nL : Nat} {ls l1 ls' : ALs} {i : Nat} {v : AV} (h : ab_L lsA nL ls) (hs : ab_st ls i v = some l1) (hc : ab_cl l1 (i + 1) = some ls') (hB : lv_has lsB nL ((i, ab_v v) :: (ab_as ls).filter (fun q => !(q.1 == i) && (!(q.1 == i + 1) && !(q.1 + 1 == i && q.2.category == 2))))) : ab_L lsB nL ls' := by
  refine ⟨hB.1, hB.2.1, by rw [(ab_cl_len hc).1, (ab_st_len hs).1]; exact h.2.2.1, fun j w hj => ?_⟩
  obtain ⟨hj1, hj2⟩ := ab_cl_g hc j w hj
  rcases ab_st_g hs j w hj2 with ⟨h1, h2⟩ | ⟨h1, h2, h3⟩
  · rw [h1, h2]; exact hB.2.2 (i, ab_v v) List.mem_cons_self
  · refine hB.2.2 (j, ab_v w) (List.mem_cons_of_mem _ (List.mem_filter.mpr ⟨ab_as_mem h2, ?_⟩))
    simp only [Bool.and_eq_true, Bool.not_eq_true', beq_eq_false_iff_ne, ne_eq, Bool.and_eq_false_iff]
    refine ⟨h1, hj1, ?_⟩
    by_cases hji : j + 1 = i
    · right
      rw [ab_cat]
      cases h2w : ab_2 w
      · decide
      · exact absurd ⟨hji, h2w⟩ h3
    · left; exact hji
theorem ab_cl_lt {ls l1 ls' : ALs} {i nL : Nat} {v : AV} (h : ls.length ≤ nL) (hs : ab_st ls i v = some l1) (hc : ab_cl l1 (i + 1) = some ls') : i + 1 < nL := by
  have h1 := (ab_cl_len hc).2
  rw [(ab_st_len hs).1] at h1
  omega
theorem ab_I_el {st : List AV} {k : Int → List AV → Prop} (h : ab_I st k) : ∃ a r, st = .inl a :: r ∧ k a r := by
  unfold ab_I at h; split at h
  · exact ⟨_, _, rfl, h⟩
  · exact h.elim
theorem ab_II_el {st : List AV} {k : Int → Int → List AV → Prop} (h : ab_II st k) : ∃ a b r, st = .inl b :: .inl a :: r ∧ k a b r := by
  unfold ab_II at h; split at h
  · exact ⟨_, _, _, rfl, h⟩
  · exact h.elim
theorem ab_A_el {st : List AV} {k : Option Nat → List AV → Prop} (h : ab_A st k) : ∃ a r, st = .inr (.inl a) :: r ∧ k a r := by
  unfold ab_A at h; split at h
  · exact ⟨_, _, rfl, h⟩
  · exact h.elim
theorem ab_Rf_el {st : List AV} {k : Nat → List AV → Prop} (h : ab_Rf st k) : ∃ a r, st = .inr (.inl (some a)) :: r ∧ k a r := by
  unfold ab_Rf at h; split at h
  · exact ⟨_, _, rfl, h⟩
  · exact h.elim
theorem ab_VR_el {st : List AV} {k : AV → Nat → List AV → Prop} (h : ab_VR st k) : ∃ v a r, st = v :: .inr (.inl (some a)) :: r ∧ k v a r := by
  unfold ab_VR at h; split at h
  · exact ⟨_, _, _, rfl, h⟩
  · exact h.elim
theorem ab_IR_el {st : List AV} {k : Int → Nat → List AV → Prop} (h : ab_IR st k) : ∃ v a r, st = .inl v :: .inr (.inl (some a)) :: r ∧ k v a r := by
  unfold ab_IR at h; split at h
  · exact ⟨_, _, _, rfl, h⟩
  · exact h.elim
theorem ab_VIR_el {st : List AV} {k : AV → Int → Nat → List AV → Prop} (h : ab_VIR st k) : ∃ v i a r, st = v :: .inl i :: .inr (.inl (some a)) :: r ∧ k v i a r := by
  unfold ab_VIR at h; split at h
  · exact ⟨_, _, _, _, rfl, h⟩
  · exact h.elim
theorem ab_1_el {st : List AV} {k : AV → List AV → Prop} (h : ab_1 st k) : ∃ v r, st = v :: r ∧ (ab_v v).category = 1 ∧ k v r := by
  unfold ab_1 at h; split at h
  · exact ⟨_, _, rfl, rfl, h⟩
  · rename_i a _; exact ⟨_, _, rfl, by rw [ab_cat]; rfl, h⟩
  · exact h.elim
theorem ab_DD_el {st : List AV} {k : UInt64 → UInt64 → List AV → Prop} (h : ab_DD st k) : ∃ a b r, st = .inr (.inr (.inr b)) :: .inr (.inr (.inr a)) :: r ∧ k a b r := by
  unfold ab_DD at h; split at h
  · exact ⟨_, _, _, rfl, h⟩
  · exact h.elim
theorem ab_ob_el {o : Option AC} {k : Nat → List AV → Prop} (h : ab_ob o k) : ∃ ci fs, o = some (.inl (ci, fs)) ∧ k ci fs := by
  unfold ab_ob at h; split at h
  · exact ⟨_, _, rfl, h⟩
  · exact h.elim
theorem ab_pr_el {o : Option AC} {k : Nat → Nat → (Int → Int) → Prop} (h : ab_pr o k) : ∃ t n f, o = some (.inr (.inl (t, n, f))) ∧ k t n f := by
  unfold ab_pr at h; split at h
  · exact ⟨_, _, _, rfl, h⟩
  · exact h.elim
theorem ab_qr_el {o : Option AC} {k : Nat → Nat → (Int → Option Nat) → Prop} (h : ab_qr o k) : ∃ t n f, o = some (.inr (.inr (t, n, f))) ∧ k t n f := by
  unfold ab_qr at h; split at h
  · exact ⟨_, _, _, rfl, h⟩
  · exact h.elim
theorem ab_so_el {α : Type} {o : Option α} {k : α → Prop} (h : ab_so o k) : ∃ x, o = some x ∧ k x := by
  unfold ab_so at h; split at h
  · exact ⟨_, rfl, h⟩
  · exact h.elim
theorem ab_vI_el {o : Option AV} {k : Int → Prop} (h : ab_vI o k) : ∃ x, o = some (.inl x) ∧ k x := by
  unfold ab_vI at h; split at h
  · exact ⟨_, rfl, h⟩
  · exact h.elim
theorem ab_vA_el {o : Option AV} {k : Option Nat → Prop} (h : ab_vA o k) : ∃ x, o = some (.inr (.inl x)) ∧ k x := by
  unfold ab_vA at h; split at h
  · exact ⟨_, rfl, h⟩
  · exact h.elim
theorem ab_vL_el {o : Option AV} {k : Int → Prop} (h : ab_vL o k) : ∃ x, o = some (.inr (.inr (.inl x))) ∧ k x := by
  unfold ab_vL at h; split at h
  · exact ⟨_, rfl, h⟩
  · exact h.elim
theorem ab_LL_el {st : List AV} {k : Int → Int → List AV → Prop} (h : ab_LL st k) : ∃ a b r, st = .inr (.inr (.inl b)) :: .inr (.inr (.inl a)) :: r ∧ k a b r := by
  unfold ab_LL at h; split at h
  · exact ⟨_, _, _, rfl, h⟩
  · exact h.elim
theorem ab_vD_el {o : Option AV} {k : UInt64 → Prop} (h : ab_vD o k) : ∃ x, o = some (.inr (.inr (.inr x))) ∧ k x := by
  unfold ab_vD at h; split at h
  · exact ⟨_, rfl, h⟩
  · exact h.elim
theorem ab_v2_el {o : Option AV} {k : Int ⊕ UInt64 → Prop} (h : ab_v2 o k) : ∃ x, o = some (.inr (.inr x)) ∧ k x := by
  unfold ab_v2 at h; split at h
  · exact ⟨_, rfl, h⟩
  · exact h.elim
theorem ab_int {v : Int} (h : ab_in v) : (Int32.ofInt v).toInt = v := Int32.toInt_ofInt_of_le (by have := h.1; omega) (by have := h.2; omega)
theorem ab_ix {i : Int} {n : Nat} (h0 : 0 ≤ i) (h1 : i < (n : Int)) (h2 : i ≤ 2147483647) : ¬ (Int32.ofInt i < 0 ∨ n ≤ (Int32.ofInt i).toNatClampNeg) ∧ (Int32.ofInt i).toNatClampNeg = i.toNat ∧ ((i.toNat : Nat) : Int) = i ∧ i.toNat < n := by
  have e1 : (Int32.ofInt i).toNatClampNeg = i.toNat := Int32.toNatClampNeg_ofInt_of_le (by omega) (by omega)
  have e2 : (Int32.ofInt i).toInt = i := ab_int ⟨by omega, h2⟩
  refine ⟨fun h => ?_, e1, by omega, by omega⟩
  rcases h with h | h
  · rw [Int32.lt_iff_toInt_lt, e2] at h
    have : (0 : Int32).toInt = 0 := rfl
    omega
  · rw [e1] at h; omega
theorem ab_cmp_eq {a b : Int} (ha : ab_in a) (hb : ab_in b) : Int32.ofInt a = Int32.ofInt b ↔ a = b := by
  rw [← Int32.toInt_inj, ab_int ha, ab_int hb]
theorem ab_cmp_lt {a b : Int} (ha : ab_in a) (hb : ab_in b) : Int32.ofInt a < Int32.ofInt b ↔ a < b := by
  rw [Int32.lt_iff_toInt_lt, ab_int ha, ab_int hb]
theorem ab_cmp_le {a b : Int} (ha : ab_in a) (hb : ab_in b) : Int32.ofInt a ≤ Int32.ofInt b ↔ a ≤ b := by
  rw [Int32.le_iff_toInt_le, ab_int ha, ab_int hb]
theorem ab_in0 : ab_in 0 := ⟨by decide, by decide⟩
theorem ab_tsw_el {pc : Nat} {v : Int} {k : Nat → Prop} : ∀ {l : List Int} {lo : Int}, ab_tsw pc v k lo l → lo ≤ v → v < lo + (l.length : Int) → ∃ off, l[(v - lo).toNat]? = some off ∧ ab_tg pc off k := by
  intro l
  induction l with
  | nil => intro lo _ h1 h2; simp at h2; omega
  | cons o l ih =>
    intro lo h h1 h2
    by_cases hv : v = lo
    · refine ⟨o, ?_, h.1 hv⟩
      rw [hv, show (lo - lo).toNat = 0 by omega]; rfl
    · obtain ⟨off, g1, g2⟩ := ih h.2 (by omega) (by simp only [List.length_cons] at h2; omega)
      refine ⟨off, ?_, g2⟩
      rw [show (v - lo).toNat = (v - (lo + 1)).toNat + 1 by omega, List.getElem?_cons_succ]
      exact g1
theorem ab_lsw_el {pc : Nat} {v d : Int} {k : Nat → Prop} : ∀ {l : List (Int × Int)}, ab_lsw pc v d k l → ab_tg pc (Op.lookupswitch.offset l d v) k := by
  intro l
  induction l with
  | nil => intro h; exact h
  | cons o l ih =>
    intro h
    obtain ⟨a, o⟩ := o
    rw [Op.lookupswitch.offset_cons]
    by_cases hv : v = a
    · rw [if_pos (by first | exact hv | exact hv.symm)]; exact h.1 hv
    · rw [if_neg (by first | exact hv | exact fun q => hv q.symm)]; exact ih (h.2 hv)
def ab_rk : Option FieldType → Nat
  | none => 0
  | some .int => 1
  | some .boolean => 2
  | some (.object _) => 3
  | some (.array _) => 3
  | some .double => 4
  | some .long => 5
  | _ => 6
def ab_Q (D : va_G) (cl : List vw_C) (ty : Nat → ClassId) (ts : List Nat) (base : Nat) (K : Option AV → AH → Prop) : Array Value → State → Outcome → State → Prop := fun _ st o t =>
  ∃ (r : Option AV) (h' : AH), o = .returned (r.map ab_v) ∧ K r h' ∧ ab_R D cl ty ts base t h' t.heap ∧ va_F (fun q => base ≤ q) st t
section ABV
variable (p : Program) (l : Launch) (e : Env) (R : Room) (s : State) (m : MethodId) (args : Array Value) (below : List Frame) (meth : Method) (c : Code)
variable (D : va_G) (cl : List vw_C) (ty : Nat → ClassId) (ts : List Nat) (base : Nat)
def ab_V (nL MC MS : Nat) (QQ : State → Prop) : AVt := fun pc ls st h k z =>
  ∀ (H : Heap) (locs : List Loc) (lsA : Array Slot), ab_R D cl ty ts base s h H → va_S (fun q => base ≤ q) s.heap H locs → ab_L lsA nL ls → k ≤ MC → z ≤ MS →
    W p l e R s m args below meth c H locs k z QQ (F0 m pc lsA (st.map ab_v))
def ab_TG (cc : ByteArray) (fl : Nat → Option (Nat × Nat)) : Prop := ∀ (i : Nat) (q : Nat × Nat), fl i = some q → ∀ (pc : Nat) (H : Heap) (locs : List Loc) (cells slots : Nat) (Q : State → Prop) (ls : Array Slot) (rest : List Value) (a : Nat) (fs : List Value) (v : Value),
  decode cc pc = .ok (.getfield i, 3) → va_at D cl (a, .inr (q.1, fs)) H → fs[q.2]? = some v → W p l e R s m args below meth c H locs cells slots Q (F0 m (pc + 3) ls (v :: rest)) → W p l e R s m args below meth c H locs cells slots Q (F0 m pc ls (.ref a :: rest))
def ab_TP (cc : ByteArray) (fp : Nat → Option (Nat × Nat × Nat)) : Prop := ∀ (i : Nat) (q : Nat × Nat × Nat), fp i = some q → ∀ (pc : Nat) (H : Heap) (locs : List Loc) (cells slots : Nat) (Q : State → Prop) (ls : Array Slot) (rest : List Value) (a : Nat) (fs : List Value) (v : AV),
  decode cc pc = .ok (.putfield i, 3) → va_at D cl (a, .inr (q.1, fs)) H → q.2.1 < fs.length → ab_fit q.2.2 v → (∀ (H1 : Heap) (j : Nat), va_at D cl (a, .inr (q.1, fs.set q.2.1 (ab_v v))) H1 → H1.size = H.size → (∀ x : Nat, x ≠ a → H1[x]? = H[x]?) → W p l e R s m args below meth c H1 (locs ++ [⟨a, j⟩]) cells slots Q (F0 m (pc + 3) ls rest)) →
  W p l e R s m args below meth c H locs cells slots Q (F0 m pc ls (ab_v v :: .ref a :: rest))
def ab_TN (cc : ByteArray) (nw : Nat → Option (Nat × List AV)) : Prop := ∀ (i : Nat) (q : Nat × List AV), nw i = some q → ∀ (pc : Nat) (H : Heap) (locs : List Loc) (cells slots : Nat) (Q : State → Prop) (ls : Array Slot) (rest : List Value),
  decode cc pc = .ok (.new i, 3) → cells + 1 ≤ R.cells → slots + q.2.length ≤ R.slots → (∀ H1 : Heap, va_at D cl (H.size, .inr (q.1, q.2.map ab_v)) H1 → H1.size = H.size + 1 → (∀ x : Nat, x < H.size → H1[x]? = H[x]?) → W p l e R s m args below meth c H1 locs (cells + 1) (slots + q.2.length) Q (F0 m (pc + 3) ls (.ref H.size :: rest))) →
  W p l e R s m args below meth c H locs cells slots Q (F0 m pc ls rest)
/-- classes of arrays of numbers that are cast to, or of which arrays are made -/
def ab_TA (cc : ByteArray) (an : Nat → Option Nat) : Prop := ∀ (i q : Nat), an i = some q → ∃ own : String, s.vm.findClass own = some m.cls ∧ (Jvm.Cond.classLink own i (if q = 0 then "[I" else "[[I")).before args s = true
def ab_TL (cc : ByteArray) (co : Nat → Option AV) : Prop := (∀ (i : Nat) (v : Int), co i = some (.inl v) → ∀ (pc : Nat) (H : Heap) (locs : List Loc) (cells slots : Nat) (Q : State → Prop) (ls : Array Slot) (rest : List Value),
  decode cc pc = .ok (.ldc i, 2) → W p l e R s m args below meth c H locs cells slots Q (F0 m (pc + 2) ls (.int (Int32.ofInt v) :: rest)) → W p l e R s m args below meth c H locs cells slots Q (F0 m pc ls rest)) ∧
  ∀ (i : Nat) (v : Int ⊕ UInt64), co i = some (.inr (.inr v)) → ∀ (pc : Nat) (H : Heap) (locs : List Loc) (cells slots : Nat) (Q : State → Prop) (ls : Array Slot) (rest : List Value),
  decode cc pc = .ok (.ldc2_w i, 3) → W p l e R s m args below meth c H locs cells slots Q (F0 m (pc + 3) ls (ab_v (.inr (.inr v)) :: rest)) → W p l e R s m args below meth c H locs cells slots Q (F0 m pc ls rest)
def ab_iv (kd i : Nat) : ClassFile.Instr := if kd = 1 then .invokespecial i else if kd = 2 then .invokestatic i else .invokevirtual i
def ab_TC1 (nL MC MS : Nat) (QQ : State → Prop) (cc : ByteArray) (i : Nat) (q : ACS) : Prop := ∀ (pc : Nat) (ls : ALs) (as r : List AV) (h : AH) (k z : Nat) (Kc : Option AV → AH → Prop),
  decode cc pc = .ok (ab_iv q.1 i, 3) → as.length = q.2.2.1 → ab_sz r ≤ 8 → k + q.2.2.2.1 ≤ MC → z + q.2.2.2.2.1 ≤ MS → (q.1 = 0 → ab_rv as h q.2.1) → q.2.2.2.2.2 as h Kc →
  (∀ rv h', Kc rv h' → ab_V p l e R s m args below meth c D cl ty ts base nL MC MS QQ (pc + 3) ls (ab_ret rv r) h' (k + q.2.2.2.1) (z + q.2.2.2.2.1)) → ab_V p l e R s m args below meth c D cl ty ts base nL MC MS QQ pc ls (as.reverse ++ r) h k z
def ab_TC (nL MC MS : Nat) (QQ : State → Prop) (cc : ByteArray) (ca : Nat → Option ACS) : Prop := ∀ (i : Nat) (q : ACS), ca i = some q → ab_TC1 p l e R s m args below meth c D cl ty ts base nL MC MS QQ cc i q
end ABV
theorem ab_pop_el {n : Nat} : ∀ {acc st : List AV} {q : List AV × List AV}, ab_pop n acc st = some q → q.1.reverse ++ q.2 = acc.reverse ++ st ∧ q.1.length = acc.length + n := by
  induction n with
  | zero => intro acc st q h; cases h; exact ⟨rfl, rfl⟩
  | succ n ih =>
    intro acc st q h
    cases st with
    | nil => cases h
    | cons v st =>
      obtain ⟨h1, h2⟩ := ih h
      refine ⟨by rw [h1]; simp, by rw [h2]; simp; omega⟩
section ABS
variable {p : Program} {l : Launch} {e : Env} {R : Room} {s : State} {m : MethodId} {args : Array Value} {below : List Frame} {meth : Method} {c : Code}
variable {D : va_G} {cl : List vw_C} {ty : Nat → ClassId} {ts : List Nat} {base : Nat}
variable {nL MC MS : Nat} {K : Option AV → AH → Prop} {QQ : State → Prop} {cc : ByteArray}
variable {pc : Nat} {ls : ALs} {st r : List AV} {h : AH} {k z : Nat}
theorem as_goto (hx : p.tables.exec = Jvm.exec) (hb : c.code = cc) {off : Int} (hd : decode cc pc = .ok (.goto off, 3)) (hs : ab_tg pc off fun t => ab_V p l e R s m args below meth c D cl ty ts base nL MC MS QQ t ls st h k z) : ab_V p l e R s m args below meth c D cl ty ts base nL MC MS QQ pc ls st h k z :=
  fun H locs lsA hR hS hL hk hz => lv_goto hx hb hd (Int.toNat_of_nonneg hs.1).symm (hs.2 H locs lsA hR hS hL hk hz)
theorem as_icmp (hx : p.tables.exec = Jvm.exec) (hb : c.code = cc) {cd : ClassFile.Cond} {off : Int} (hd : decode cc pc = .ok (.if_icmp cd off, 3)) {a b : Int} (hn : 0 ≤ (pc : Int) + off) (ha : ab_in a) (hb2 : ab_in b)
    (kt : ab_c cd a b → (ab_V p l e R s m args below meth c D cl ty ts base nL MC MS QQ) ((pc : Int) + off).toNat ls r h k z) (kf : ¬ ab_c cd a b → (ab_V p l e R s m args below meth c D cl ty ts base nL MC MS QQ) (pc + 3) ls r h k z) : (ab_V p l e R s m args below meth c D cl ty ts base nL MC MS QQ) pc ls (.inl b :: .inl a :: r) h k z := by
  intro H locs lsA hR hS hL hk hz
  have kt' := fun hc => kt hc H locs lsA hR hS hL hk hz
  have kf' := fun hc => kf hc H locs lsA hR hS hL hk hz
  have h0 := (Int.toNat_of_nonneg hn).symm
  cases cd
  · exact lv_icmp_eq hx hb hd h0 (fun q => kt' ((ab_cmp_eq ha hb2).mp q)) (fun q => kf' (fun z => q ((ab_cmp_eq ha hb2).mpr z)))
  · exact lv_icmp_ne hx hb hd h0 (fun q => kt' (fun z => q ((ab_cmp_eq ha hb2).mpr z))) (fun q => kf' (fun z => z ((ab_cmp_eq ha hb2).mp q)))
  · exact lv_icmp_lt hx hb hd h0 (fun q => kt' ((ab_cmp_lt ha hb2).mp q)) (fun q => kf' (fun z => q ((ab_cmp_lt ha hb2).mpr z)))
  · exact lv_icmp_ge hx hb hd h0 (fun q => kt' ((ab_cmp_le hb2 ha).mp q)) (fun q => kf' (fun z => q ((ab_cmp_le hb2 ha).mpr z)))
  · exact lv_icmp_gt hx hb hd h0 (fun q => kt' ((ab_cmp_lt hb2 ha).mp q)) (fun q => kf' (fun z => q ((ab_cmp_lt hb2 ha).mpr z)))
  · exact lv_icmp_le hx hb hd h0 (fun q => kt' ((ab_cmp_le ha hb2).mp q)) (fun q => kf' (fun z => q ((ab_cmp_le ha hb2).mpr z)))
theorem as_if (hx : p.tables.exec = Jvm.exec) (hb : c.code = cc) {cd : ClassFile.Cond} {off : Int} (hd : decode cc pc = .ok (.ifCond cd off, 3)) {a : Int} (hn : 0 ≤ (pc : Int) + off) (ha : ab_in a)
    (kt : ab_c cd a 0 → (ab_V p l e R s m args below meth c D cl ty ts base nL MC MS QQ) ((pc : Int) + off).toNat ls r h k z) (kf : ¬ ab_c cd a 0 → (ab_V p l e R s m args below meth c D cl ty ts base nL MC MS QQ) (pc + 3) ls r h k z) : (ab_V p l e R s m args below meth c D cl ty ts base nL MC MS QQ) pc ls (.inl a :: r) h k z := by
  intro H locs lsA hR hS hL hk hz
  have kt' := fun hc => kt hc H locs lsA hR hS hL hk hz
  have kf' := fun hc => kf hc H locs lsA hR hS hL hk hz
  have h0 := (Int.toNat_of_nonneg hn).symm
  have hb2 := ab_in0
  have e0 : Int32.ofInt 0 = (0 : Int32) := rfl
  have ceq := ab_cmp_eq ha hb2
  have clt := ab_cmp_lt ha hb2
  have cle := ab_cmp_le ha hb2
  have clt' := ab_cmp_lt hb2 ha
  have cle' := ab_cmp_le hb2 ha
  rw [e0] at ceq clt cle clt' cle'
  cases cd
  · exact lv_if_eq hx hb hd h0 (fun q => kt' (ceq.mp q)) (fun q => kf' (fun z => q (ceq.mpr z)))
  · exact lv_if_ne hx hb hd h0 (fun q => kt' (fun z => q (ceq.mpr z))) (fun q => kf' (fun z => z (ceq.mp q)))
  · exact lv_if_lt hx hb hd h0 (fun q => kt' (clt.mp q)) (fun q => kf' (fun z => q (clt.mpr z)))
  · exact lv_if_ge hx hb hd h0 (fun q => kt' (cle'.mp q)) (fun q => kf' (fun z => q (cle'.mpr z)))
  · exact lv_if_gt hx hb hd h0 (fun q => kt' (clt'.mp q)) (fun q => kf' (fun z => q (clt'.mpr z)))
  · exact lv_if_le hx hb hd h0 (fun q => kt' (cle.mp q)) (fun q => kf' (fun z => q (cle.mpr z)))
theorem as_iaload (hx : p.tables.exec = Jvm.exec) (hb : c.code = cc) (hT : ∀ t ∈ ts, ab_T s t (ty t)) (hd : decode cc pc = .ok (.iaload, 1)) {a n t : Nat} {i : Int} {f : Int → Int} (ha : h a = some (.inr (.inl (t, n, f)))) (h1 : (t = 0 ∨ t = 9) ∧ 0 ≤ i ∧ i < (n : Int) ∧ i ≤ 2147483647)
    (kk : (ab_V p l e R s m args below meth c D cl ty ts base nL MC MS QQ) (pc + 1) ls (.inl (f i) :: r) h k z) : (ab_V p l e R s m args below meth c D cl ty ts base nL MC MS QQ) pc ls (.inl i :: .inr (.inl (some a)) :: r) h k z := by
  intro H locs lsA hR hS hL hk hz
  obtain ⟨ht, h2, h3, h4⟩ := h1
  obtain ⟨g1, g2, g3, g4⟩ := ab_ix h2 h3 h4
  obtain ⟨q1, q2⟩ := hR.2 a _ ha
  have kk' := kk H locs lsA hR hS hL hk hz
  rcases ht with rfl | rfl
  · have hm : 0 ∈ ts := by rcases q2 with q | q; cases q; exact q.1
    have hc : H[a]? = some (arrV (ty 0) n (fun j => .int (Int32.ofInt (f (j : Int))))) := q1
    exact W.iald (v := .int (Int32.ofInt (f i))) hx hb hc ((hT 0 hm).1 n _) (fun q => by cases q) (by rw [arrV_size]; exact g1) (by rw [g2, arrV_read _ _ g4, g3]) rfl rfl hd kk'
  · obtain ⟨scr, w1, w2, w3, w4, w5⟩ : va_X a n (fun j => Int32.ofInt (f (j : Int))) s H := q1
    exact W.iald (v := .int (Int32.ofInt (f i))) hx hb w1 w2 w3 (by rw [w4]; exact g1) (by rw [g2, w5 _ g4]; simp only [g3]) rfl rfl hd kk'
theorem as_baload (hx : p.tables.exec = Jvm.exec) (hb : c.code = cc) (hT : ∀ t ∈ ts, ab_T s t (ty t)) (hd : decode cc pc = .ok (.baload, 1)) {a n t : Nat} {i : Int} {f : Int → Int} (ha : h a = some (.inr (.inl (t, n, f)))) (h1 : t = 1 ∧ 0 ≤ i ∧ i < (n : Int) ∧ i ≤ 2147483647)
    (kk : (ab_V p l e R s m args below meth c D cl ty ts base nL MC MS QQ) (pc + 1) ls (.inl (f i) :: r) h k z) : (ab_V p l e R s m args below meth c D cl ty ts base nL MC MS QQ) pc ls (.inl i :: .inr (.inl (some a)) :: r) h k z := by
  intro H locs lsA hR hS hL hk hz
  obtain ⟨rfl, h2, h3, h4⟩ := h1
  obtain ⟨g1, g2, g3, g4⟩ := ab_ix h2 h3 h4
  obtain ⟨q1, q2⟩ := hR.2 a _ ha
  have kk' := kk H locs lsA hR hS hL hk hz
  have hm : 1 ∈ ts := by rcases q2 with q | q; cases q; exact q.1
  have hc : H[a]? = some (arrV (ty 1) n (fun j => .int (Int32.ofInt (f (j : Int))))) := q1
  exact W.zald (v := .int (Int32.ofInt (f i))) hx hb hc ((hT 1 hm).1 n _) (fun q => by cases q) (by rw [arrV_size]; exact g1) (by rw [g2, arrV_read _ _ g4, g3]) rfl rfl hd kk'
theorem as_aaload (hx : p.tables.exec = Jvm.exec) (hb : c.code = cc) (hT : ∀ t ∈ ts, ab_T s t (ty t)) (hd : decode cc pc = .ok (.aaload, 1)) {a n t : Nat} {i : Int} {f : Int → Option Nat} (ha : h a = some (.inr (.inr (t, n, f)))) (h1 : 0 ≤ i ∧ i < (n : Int) ∧ i ≤ 2147483647)
    (kk : (ab_V p l e R s m args below meth c D cl ty ts base nL MC MS QQ) (pc + 1) ls (.inr (.inl (f i)) :: r) h k z) : (ab_V p l e R s m args below meth c D cl ty ts base nL MC MS QQ) pc ls (.inl i :: .inr (.inl (some a)) :: r) h k z := by
  intro H locs lsA hR hS hL hk hz
  obtain ⟨h2, h3, h4⟩ := h1
  obtain ⟨g1, g2, g3, g4⟩ := ab_ix h2 h3 h4
  obtain ⟨q1, ⟨⟨rfl, hm⟩, q3⟩⟩ := hR.2 a _ ha
  have kk' := kk H locs lsA hR hS hL hk hz
  have hc : H[a]? = some (arrV (ty 3) n (fun j => va_rf (f (j : Int)))) := q1
  exact W.aald (v := va_rf (f i)) (ty := .array .int) hx hb hc ((hT 3 hm).1 n _) rfl (fun q => by cases q) (by rw [arrV_size]; exact g1) (by rw [g2, arrV_read _ _ g4, g3]) rfl rfl hd kk'
theorem as_upd {α : Type} {f : Int → α} {i : Int} {x : α} {g : α → Value} (h0 : 0 ≤ i) : updV (fun j : Nat => g (f (j : Int))) i.toNat (g x) = fun j : Nat => g (ab_uf f i x (j : Int)) := by
  funext j
  simp only [updV, ab_uf]
  by_cases hj : j = i.toNat
  · rw [if_pos hj, if_pos (by omega)]
  · rw [if_neg hj, if_neg (by omega)]
theorem as_iastore (hx : p.tables.exec = Jvm.exec) (hb : c.code = cc) (hT : ∀ t ∈ ts, ab_T s t (ty t)) (hd : decode cc pc = .ok (.iastore, 1)) {a n t : Nat} {i x : Int} {f : Int → Int} (ha : h a = some (.inr (.inl (t, n, f)))) (h1 : t = 0 ∧ 0 ≤ i ∧ i < (n : Int) ∧ i ≤ 2147483647)
    (kk : (ab_V p l e R s m args below meth c D cl ty ts base nL MC MS QQ) (pc + 1) ls r (ab_up h a (.inr (.inl (0, n, ab_uf f i x)))) k z) : (ab_V p l e R s m args below meth c D cl ty ts base nL MC MS QQ) pc ls (.inl x :: .inl i :: .inr (.inl (some a)) :: r) h k z := by
  intro H locs lsA hR hS hL hk hz
  obtain ⟨rfl, h2, h3, h4⟩ := h1
  obtain ⟨g1, g2, g3, g4⟩ := ab_ix h2 h3 h4
  obtain ⟨q1, q2⟩ := hR.2 a _ ha
  have hm : 0 ∈ ts ∧ base ≤ a := by rcases q2 with q | q; cases q; exact q
  have hc : H[a]? = some (arrV (ty 0) n (fun j => .int (Int32.ofInt (f (j : Int))))) := q1
  refine W.iast hx hb hc ((hT 0 hm.1).1 n _) (fun q => by cases q) (by rw [arrV_size]; exact g1) rfl rfl hd fun H1 e1 z1 oq => ?_
  rw [g2, arrV_store, as_upd (g := fun v => .int (Int32.ofInt v)) h2] at e1
  exact kk H1 _ _ (hR.put z1 oq (by exact e1) (Or.inr hm)) (hS.put z1 oq hm.2) hL hk hz
theorem as_bastore (hx : p.tables.exec = Jvm.exec) (hb : c.code = cc) (hT : ∀ t ∈ ts, ab_T s t (ty t)) (hd : decode cc pc = .ok (.bastore, 1)) {a n t : Nat} {i x : Int} {f : Int → Int} (ha : h a = some (.inr (.inl (t, n, f)))) (h1 : t = 1 ∧ 0 ≤ i ∧ i < (n : Int) ∧ i ≤ 2147483647) (hx01 : x = 0 ∨ x = 1)
    (kk : (ab_V p l e R s m args below meth c D cl ty ts base nL MC MS QQ) (pc + 1) ls r (ab_up h a (.inr (.inl (1, n, ab_uf f i x)))) k z) : (ab_V p l e R s m args below meth c D cl ty ts base nL MC MS QQ) pc ls (.inl x :: .inl i :: .inr (.inl (some a)) :: r) h k z := by
  intro H locs lsA hR hS hL hk hz
  obtain ⟨rfl, h2, h3, h4⟩ := h1
  obtain ⟨g1, g2, g3, g4⟩ := ab_ix h2 h3 h4
  obtain ⟨q1, q2⟩ := hR.2 a _ ha
  have hm : 1 ∈ ts ∧ base ≤ a := by rcases q2 with q | q; cases q; exact q
  have hc : H[a]? = some (arrV (ty 1) n (fun j => .int (Int32.ofInt (f (j : Int))))) := q1
  have hn : narrow .boolean (.int (Int32.ofInt x)) = .int (Int32.ofInt x) := by rcases hx01 with rfl | rfl <;> rfl
  refine W.zast hx hb hc ((hT 1 hm.1).1 n _) (fun q => by cases q) (by rw [arrV_size]; exact g1) rfl rfl hd fun H1 e1 z1 oq => ?_
  rw [hn, g2, arrV_store, as_upd (g := fun v => .int (Int32.ofInt v)) h2] at e1
  exact kk H1 _ _ (hR.put z1 oq (by exact e1) (Or.inr hm)) (hS.put z1 oq hm.2) hL hk hz
theorem as_laload (hx : p.tables.exec = Jvm.exec) (hb : c.code = cc) (hT : ∀ t ∈ ts, ab_T s t (ty t)) (hd : decode cc pc = .ok (.laload, 1)) {a n t : Nat} {i : Int} {f : Int → Int} (ha : h a = some (.inr (.inl (t, n, f)))) (h1 : t = 2 ∧ 0 ≤ i ∧ i < (n : Int) ∧ i ≤ 2147483647)
    (kk : (ab_V p l e R s m args below meth c D cl ty ts base nL MC MS QQ) (pc + 1) ls (.inr (.inr (.inl (f i))) :: r) h k z) : (ab_V p l e R s m args below meth c D cl ty ts base nL MC MS QQ) pc ls (.inl i :: .inr (.inl (some a)) :: r) h k z := by
  intro H locs lsA hR hS hL hk hz
  obtain ⟨rfl, h2, h3, h4⟩ := h1
  obtain ⟨g1, g2, g3, g4⟩ := ab_ix h2 h3 h4
  obtain ⟨q1, q2⟩ := hR.2 a _ ha
  have kk' := kk H locs lsA hR hS hL hk hz
  have hm : 2 ∈ ts := by rcases q2 with q | q; cases q; exact q.1
  have hc : H[a]? = some (arrV (ty 2) n (fun j => .long (Int64.ofInt (f (j : Int))))) := q1
  exact W.lald (v := .long (Int64.ofInt (f i))) hx hb hc ((hT 2 hm).1 n _) (fun q => by cases q) (by rw [arrV_size]; exact g1) (by rw [g2, arrV_read _ _ g4, g3]) rfl rfl hd kk'
theorem as_lastore (hx : p.tables.exec = Jvm.exec) (hb : c.code = cc) (hT : ∀ t ∈ ts, ab_T s t (ty t)) (hd : decode cc pc = .ok (.lastore, 1)) {a n t : Nat} {i x : Int} {f : Int → Int} (ha : h a = some (.inr (.inl (t, n, f)))) (h1 : t = 2 ∧ 0 ≤ i ∧ i < (n : Int) ∧ i ≤ 2147483647)
    (kk : (ab_V p l e R s m args below meth c D cl ty ts base nL MC MS QQ) (pc + 1) ls r (ab_up h a (.inr (.inl (2, n, ab_uf f i x)))) k z) : (ab_V p l e R s m args below meth c D cl ty ts base nL MC MS QQ) pc ls (.inr (.inr (.inl x)) :: .inl i :: .inr (.inl (some a)) :: r) h k z := by
  intro H locs lsA hR hS hL hk hz
  obtain ⟨rfl, h2, h3, h4⟩ := h1
  obtain ⟨g1, g2, g3, g4⟩ := ab_ix h2 h3 h4
  obtain ⟨q1, q2⟩ := hR.2 a _ ha
  have hm : 2 ∈ ts ∧ base ≤ a := by rcases q2 with q | q; cases q; exact q
  have hc : H[a]? = some (arrV (ty 2) n (fun j => .long (Int64.ofInt (f (j : Int))))) := q1
  refine W.last hx hb hc ((hT 2 hm.1).1 n _) (fun q => by cases q) (by rw [arrV_size]; exact g1) rfl rfl hd fun H1 e1 z1 oq => ?_
  rw [g2, arrV_store, as_upd (g := fun v => .long (Int64.ofInt v)) h2] at e1
  exact kk H1 _ _ (hR.put z1 oq (by exact e1) (Or.inr hm)) (hS.put z1 oq hm.2) hL hk hz
theorem as_anew (hx : p.tables.exec = Jvm.exec) (hb : c.code = cc) (hT : ∀ t ∈ ts, ab_T s t (ty t)) {own : String} {i : Nat} (hown : s.vm.findClass own = some m.cls) (hcl : (Jvm.Cond.classLink own i "[I").before args s = true) (hao : (Jvm.Cond.arrayOver (.array .int)).before args s = true) (hRC : R.cells = MC ∧ R.slots = MS) (hd : decode cc pc = .ok (.anewarray i, 3)) {n : Int}
    (h1 : 3 ∈ ts ∧ 0 ≤ n ∧ n ≤ 67108864 ∧ k + 1 ≤ MC ∧ z + n.toNat ≤ MS)
    (kk : ∀ a, h a = none → base ≤ a → (ab_V p l e R s m args below meth c D cl ty ts base nL MC MS QQ) (pc + 3) ls (.inr (.inl (some a)) :: r) (ab_up h a (.inr (.inr (3, n.toNat, fun _ => none)))) (k + 1) (z + n.toNat)) : (ab_V p l e R s m args below meth c D cl ty ts base nL MC MS QQ) pc ls (.inl n :: r) h k z := by
  intro H locs lsA hR hS hL hk hz
  obtain ⟨hm, h2, h3, h4, h5⟩ := h1
  have e1 : (Int32.ofInt n).toNatClampNeg = n.toNat := Int32.toNatClampNeg_ofInt_of_le (by omega) (by omega)
  have e2 : ¬ Int32.ofInt n < 0 := by
    rw [Int32.lt_iff_toInt_lt, ab_int ⟨by omega, by omega⟩]
    have : (0 : Int32).toInt = 0 := rfl
    omega
  have hT0 : ab_T s 3 (ty 3) := hT _ hm
  refine W.anewA (t := .int) hx hb hown hcl hao rfl hd rfl e2 (by rw [e1]; omega) (by rw [hRC.1]; exact h4) (by rw [hRC.2, e1]; exact h5) fun cA kA comp f1 f2 f3 f4 => ?_
  cases f1.symm.trans hT0.2.1
  rw [e1]
  generalize hH1 : H.push ({ cls := ty 3, slots := Array.replicate n.toNat .null, vm := .none } : Cell) = H1
  have z1 : H1.size = H.size + 1 := by rw [← hH1, Array.size_push]
  have e1 : H1[H.size]? = some (arrV (ty 3) n.toNat (fun _ => .null)) := by rw [← hH1, Array.getElem?_push_size, ← arrV_new]
  have o1 : ∀ q : Nat, q < H.size → H1[q]? = H[q]? := fun q hq => by rw [← hH1, Array.getElem?_push, if_neg (Nat.ne_of_lt hq)]
  exact kk H.size hR.fresh hR.1 H1 _ _ (hR.push z1 o1 e1 ⟨⟨rfl, hm⟩, hR.1⟩) ⟨Nat.le_trans hS.1 (by omega), fun q hq hq2 => (o1 q (Nat.lt_of_lt_of_le hq hS.1)).trans (hS.2.1 q hq hq2), hS.2.2⟩ hL h4 h5
theorem as_mnew (hx : p.tables.exec = Jvm.exec) (hb : c.code = cc) (hT : ∀ t ∈ ts, ab_T s t (ty t)) {own : String} {i : Nat} (hown : s.vm.findClass own = some m.cls) (hcl : (Jvm.Cond.classLink own i "[[I").before args s = true) (hao : (Jvm.Cond.arrayOver (.array .int)).before args s = true) (har : (Jvm.Cond.arrayClass .int).before args s = true) (hRC : R.cells = MC ∧ R.slots = MS) (hd : decode cc pc = .ok (.multianewarray i 2, 4)) {n m' : Int}
    (h1 : (3 ∈ ts ∧ 0 ∈ ts) ∧ (0 ≤ n ∧ n ≤ 1000 ∧ 0 ≤ m' ∧ m' ≤ 1000) ∧ k + (1 + n.toNat) ≤ MC ∧ z + (n.toNat + n.toNat * m'.toNat) ≤ MS)
    (kk : ∀ a, (∀ b, a ≤ b → h b = none) → base ≤ a → (ab_V p l e R s m args below meth c D cl ty ts base nL MC MS QQ) (pc + 4) ls (.inr (.inl (some a)) :: r) (ab_grid h a n.toNat m'.toNat) (k + (1 + n.toNat)) (z + (n.toNat + n.toNat * m'.toNat))) : (ab_V p l e R s m args below meth c D cl ty ts base nL MC MS QQ) pc ls (.inl m' :: .inl n :: r) h k z := by
  intro H locs lsA hR hS hL hk hz
  obtain ⟨⟨hm3, hm0⟩, ⟨h2, h3, h4, h5⟩, h6, h7⟩ := h1
  have neg : ∀ v : Int, 0 ≤ v → v ≤ 1000 → ¬ Int32.ofInt v < 0 := fun v g1 g2 => by
    rw [Int32.lt_iff_toInt_lt, ab_int ⟨by omega, by omega⟩]
    have : (0 : Int32).toInt = 0 := rfl
    omega
  have e1 : (Int32.ofInt n).toNatClampNeg = n.toNat := Int32.toNatClampNeg_ofInt_of_le (by omega) (by omega)
  have e2 : (Int32.ofInt m').toNatClampNeg = m'.toNat := Int32.toNatClampNeg_ofInt_of_le (by omega) (by omega)
  have hT0 : ab_T s 0 (ty 0) := hT _ hm0
  have hT3 : ab_T s 3 (ty 3) := hT _ hm3
  refine ab_Wmnew hx hb hown hcl hao har rfl hd rfl (neg _ h2 h3) (neg _ h4 h5) (by rw [e1]; omega) (by rw [e2]; omega) (by rw [e1, hRC.1]; exact h6) (by rw [e1, e2, hRC.2]; exact h7) fun cA comp f1 f2 H1 z1 o1 c1 c2 => ?_
  cases f1.symm.trans hT3.2.1
  cases f2.symm.trans hT0.2
  rw [e1] at z1 c1 c2
  rw [e2] at c2
  rw [e1, e2]
  have hn : ∀ b, H.size ≤ b → h b = none := fun b hb => by
    cases hc : h b with
    | none => rfl
    | some c => exact absurd (hR.2 _ _ hc).1.lt (by omega)
  refine kk H.size hn hR.1 H1 _ _ ⟨by rw [z1]; have := hR.1; omega, fun b c hc => ?_⟩ ⟨Nat.le_trans hS.1 (by omega), fun q hq hq2 => (o1 q (Nat.lt_of_lt_of_le hq hS.1)).trans (hS.2.1 q hq hq2), hS.2.2⟩ hL h6 h7
  unfold ab_grid at hc
  split at hc
  · rename_i hb; subst hb; cases hc
    refine ⟨?_, ⟨rfl, hm3⟩, hR.1⟩
    show H1[H.size]? = some (arrV (ty 3) n.toNat (fun j => va_rf (if 0 ≤ (j : Int) ∧ (j : Int) < (n.toNat : Int) then some (H.size + 1 + (j : Int).toNat) else none)))
    rw [c1]
    congr 2
    funext j
    by_cases hj : j < n.toNat
    · rw [if_pos hj, if_pos ⟨Int.natCast_nonneg j, by omega⟩]; rfl
    · rw [if_neg hj, if_neg (fun q => hj (by omega))]; rfl
  · rename_i hb
    split at hc
    · rename_i hb2
      cases hc
      refine ⟨?_, Or.inr ⟨hm0, by have := hR.1; omega⟩⟩
      show H1[b]? = some (arrV (ty 0) m'.toNat (fun _ => .int (Int32.ofInt 0)))
      have e9 : b = H.size + 1 + (b - (H.size + 1)) := by omega
      rw [e9, c2 _ (by omega)]
      rfl
    · exact ⟨(hR.2 b c hc).1.kept (o1 b (hR.2 b c hc).1.lt), (hR.2 b c hc).2⟩
theorem as_aastore (hx : p.tables.exec = Jvm.exec) (hb : c.code = cc) (hT : ∀ t ∈ ts, ab_T s t (ty t)) (hd : decode cc pc = .ok (.aastore, 1)) {a q n t n1 t1 : Nat} {i : Int} {f : Int → Option Nat} {g : Int → Int} (ha : h a = some (.inr (.inr (t, n, f)))) (h1 : 0 ≤ i ∧ i < (n : Int) ∧ i ≤ 2147483647) (hq : h q = some (.inr (.inl (t1, n1, g)))) (ht1 : t1 = 0)
    (kk : (ab_V p l e R s m args below meth c D cl ty ts base nL MC MS QQ) (pc + 1) ls r (ab_up h a (.inr (.inr (3, n, ab_uf f i (some q))))) k z) : (ab_V p l e R s m args below meth c D cl ty ts base nL MC MS QQ) pc ls (.inr (.inl (some q)) :: .inl i :: .inr (.inl (some a)) :: r) h k z := by
  intro H locs lsA hR hS hL hk hz
  subst ht1
  obtain ⟨h2, h3, h4⟩ := h1
  obtain ⟨g1, g2, g3, g4⟩ := ab_ix h2 h3 h4
  obtain ⟨q1, ⟨⟨rfl, hm⟩, q3⟩⟩ := hR.2 a _ ha
  obtain ⟨p1, p2⟩ := hR.2 q _ hq
  have hm0 : 0 ∈ ts ∧ base ≤ q := by rcases p2 with q | q; cases q; exact q
  have hc : H[a]? = some (arrV (ty 3) n (fun j => va_rf (f (j : Int)))) := q1
  have hc0 : H[q]? = some (arrV (ty 0) n1 (fun j => .int (Int32.ofInt (g (j : Int))))) := p1
  obtain ⟨-, -, kA, comp, k1, k2, k3⟩ : ab_T s 3 (ty 3) := hT 3 hm
  obtain ⟨hA0, hf0⟩ : ab_T s 0 (ty 0) := hT 0 hm0.1
  obtain ⟨-, k0, hk0, -⟩ := hA0 0 (fun _ => .null)
  have hcomp : comp = ty 0 := Option.some.inj (k3.symm.trans hf0)
  subst hcomp
  refine W.aast hx hb hc (fun q h => by cases h) (fun h => by cases h) k1 k2 rfl hk0 ⟨fun q => g1 (Or.inl q), by rw [arrV_size, g2]; exact g4⟩ hc0 (fun q h => by cases h) hk0 (va_asg _ _) rfl rfl hd fun H1 e1 z1 oq => ?_
  rw [g2, arrV_store, show (Value.ref q) = va_rf (some q) from rfl, as_upd (g := fun v => va_rf v) h2] at e1
  exact kk H1 _ _ (hR.put z1 oq (by exact e1) ⟨⟨rfl, hm⟩, q3⟩) (hS.put z1 oq q3) hL hk hz
theorem as_cast (hx : p.tables.exec = Jvm.exec) (hb : c.code = cc) (hT : ∀ t ∈ ts, ab_T s t (ty t)) {own : String} {i : Nat} (hown : s.vm.findClass own = some m.cls) (hcl : (Jvm.Cond.classLink own i "[I").before args s = true) (hd : decode cc pc = .ok (.checkcast i, 3)) {a n t : Nat} {f : Int → Int} (ha : h a = some (.inr (.inl (t, n, f)))) (ht : t = 0)
    (kk : (ab_V p l e R s m args below meth c D cl ty ts base nL MC MS QQ) (pc + 3) ls (.inr (.inl (some a)) :: r) h k z) : (ab_V p l e R s m args below meth c D cl ty ts base nL MC MS QQ) pc ls (.inr (.inl (some a)) :: r) h k z := by
  intro H locs lsA hR hS hL hk hz
  subst ht
  obtain ⟨q1, q2⟩ := hR.2 a _ ha
  have hm : 0 ∈ ts ∧ base ≤ a := by rcases q2 with q | q; cases q; exact q
  have hat : va_at D cl (a, .inl (ty 0, n, .inl (fun j => Int32.ofInt (f (j : Int))))) H := q1
  have hP : va_P D cl [(a, .inl (ty 0, n, .inl (fun j => Int32.ofInt (f (j : Int)))))] H := by
    intro k x hx
    cases k with
    | zero => cases hx; exact hat
    | succ k => cases hx
  exact va_castA hx hb hown hcl hP 0 rfl (hT 0 hm.1).2 hd (kk H locs lsA hR hS hL hk hz)
theorem as_alen (hx : p.tables.exec = Jvm.exec) (hb : c.code = cc) (hT : ∀ t ∈ ts, ab_T s t (ty t)) (hd : decode cc pc = .ok (.arraylength, 1)) {a : Nat} {kk : Nat → Prop} (ha : ab_ln (h a) kk)
    (hk0 : ∀ n, kk n → (ab_V p l e R s m args below meth c D cl ty ts base nL MC MS QQ) (pc + 1) ls (.inl (n : Int) :: r) h k z) : (ab_V p l e R s m args below meth c D cl ty ts base nL MC MS QQ) pc ls (.inr (.inl (some a)) :: r) h k z := by
  intro H locs lsA hR hS hL hk hz
  unfold ab_ln at ha
  split at ha
  · rename_i t n f hc0
    obtain ⟨q1, q2⟩ := hR.2 a _ hc0
    have kk' := hk0 n ha H locs lsA hR hS hL hk hz
    have e0 : Int32.ofInt (n : Int) = Int32.ofNat n := Int32.ofInt_eq_ofNat
    rcases q2 with rfl | ⟨hm, hba⟩
    · obtain ⟨scr, w1, w2, w3, w4, w5⟩ : va_X a n (fun j => Int32.ofInt (f (j : Int))) s H := q1
      exact W.alen (n := Int32.ofInt (n : Int)) hx hb w1 w2 (by rw [w4, e0]) rfl rfl hd kk'
    · match t, hm, hT t hm, q1 with
      | 0, hm, hT0, q1 =>
        have hc : H[a]? = some (arrV (ty 0) n (fun j => .int (Int32.ofInt (f (j : Int))))) := q1
        exact W.alen (n := Int32.ofInt (n : Int)) hx hb hc (hT0.1 n _) (by rw [arrV_size, e0]) rfl rfl hd kk'
      | 1, hm, hT0, q1 =>
        have hc : H[a]? = some (arrV (ty 1) n (fun j => .int (Int32.ofInt (f (j : Int))))) := q1
        exact W.alen (n := Int32.ofInt (n : Int)) hx hb hc (hT0.1 n _) (by rw [arrV_size, e0]) rfl rfl hd kk'
      | 2, hm, hT0, q1 =>
        have hc : H[a]? = some (arrV (ty 2) n (fun j => .long (Int64.ofInt (f (j : Int))))) := q1
        exact W.alen (n := Int32.ofInt (n : Int)) hx hb hc (hT0.1 n _) (by rw [arrV_size, e0]) rfl rfl hd kk'
      | 3, hm, hT0, q1 =>
        have hc : H[a]? = some (arrV (ty 3) n (fun j => .int (Int32.ofInt (f (j : Int))))) := q1
        exact W.alen (n := Int32.ofInt (n : Int)) hx hb hc (hT0.1 n _) (by rw [arrV_size, e0]) rfl rfl hd kk'
  · rename_i t n f hc0
    obtain ⟨q1, ⟨⟨rfl, hm⟩, q3⟩⟩ := hR.2 a _ hc0
    have kk' := hk0 n ha H locs lsA hR hS hL hk hz
    have e0 : Int32.ofInt (n : Int) = Int32.ofNat n := Int32.ofInt_eq_ofNat
    have hc : H[a]? = some (arrV (ty 3) n (fun j => va_rf (f (j : Int)))) := q1
    exact W.alen (n := Int32.ofInt (n : Int)) hx hb hc ((hT 3 hm).1 n _) (by rw [arrV_size, e0]) rfl rfl hd kk'
  · exact ha.elim
theorem as_newa (hx : p.tables.exec = Jvm.exec) (hb : c.code = cc) (hT : ∀ t ∈ ts, ab_T s t (ty t)) {at9 : ClassFile.ArrayType} (harr : (Jvm.Cond.arrayClass (newarray.typeOf at9)).before args s = true) (hRC : R.cells = MC ∧ R.slots = MS) (hd : decode cc pc = .ok (.newarray at9, 2)) {n : Int}
    (h1 : ab_at at9 ∈ ts ∧ 0 ≤ n ∧ n ≤ 67108864 ∧ k + 1 ≤ MC ∧ z + n.toNat ≤ MS)
    (kk : ∀ a, h a = none → base ≤ a → (ab_V p l e R s m args below meth c D cl ty ts base nL MC MS QQ) (pc + 2) ls (.inr (.inl (some a)) :: r) (ab_up h a (.inr (.inl (ab_at at9, n.toNat, fun _ => 0)))) (k + 1) (z + n.toNat)) : (ab_V p l e R s m args below meth c D cl ty ts base nL MC MS QQ) pc ls (.inl n :: r) h k z := by
  intro H locs lsA hR hS hL hk hz
  obtain ⟨hm, h2, h3, h4, h5⟩ := h1
  have e1 : (Int32.ofInt n).toNatClampNeg = n.toNat := Int32.toNatClampNeg_ofInt_of_le (by omega) (by omega)
  have e2 : ¬ Int32.ofInt n < 0 := by
    rw [Int32.lt_iff_toInt_lt, ab_int ⟨by omega, by omega⟩]
    have : (0 : Int32).toInt = 0 := rfl
    omega
  have hT0 := hT _ hm
  have hcb : componentBytes (newarray.typeOf at9) ≤ 8 := by cases at9 <;> decide
  refine va_newaK (N := n.toNat) hx hb harr rfl hd rfl e2 e1 (Nat.le_trans (Nat.mul_le_mul_left _ hcb) (by omega)) (by rw [hRC.1]; exact h4) (by rw [hRC.2]; exact h5) rfl fun H1 cA a1 z1 o1 hA hcls => ?_
  refine kk H.size hR.fresh hR.1 H1 _ _ (hR.push z1 o1 ?_ (Or.inr ⟨hm, hR.1⟩)) ⟨Nat.le_trans hS.1 (by omega), fun q hq hq2 => (o1 q (Nat.lt_of_lt_of_le hq hS.1)).trans (hS.2.1 q hq hq2), hS.2.2⟩ hL h4 h5
  cases at9 <;> first | (exact absurd hT0 (fun h => h)) | skip
  · cases hcls.symm.trans hT0.2; exact a1
  · cases hcls.symm.trans hT0.2; exact a1
  · cases hcls.symm.trans hT0.2; exact a1
theorem ab_Wq {Q Q9 : State → Prop} {H : Heap} {locs : List Loc} {g : JFrame} (hQ : ∀ t, Q t → Q9 t) (kk : W p l e R s m args below meth c H locs k z Q g) : W p l e R s m args below meth c H locs k z Q9 g := fun T hT X => by
  obtain ⟨t, a, b⟩ := kk T hT X
  exact ⟨t, a, hQ t b⟩
theorem as_ld (hL : ∀ lsA, ab_L lsA nL ls → True) : True := trivial
/-- one step: what the abstract machine says of an instruction holds of the machine -/
theorem ab_sound (hx : p.tables.exec = Jvm.exec) (hb : c.code = cc) (hlocks : meth.locks = false) {rt : Nat} (hrt : ab_rk meth.sig.returnType = rt) (hRC : R.cells = MC ∧ R.slots = MS) (hQQ : ∀ t, MQ below (ab_Q D cl ty ts base K) args s MC MS (fun q => base ≤ q) t → QQ t) (hT : ∀ t ∈ ts, ab_T s t (ty t))
    {tb : ATb} {ca : Nat → Option ACS} (hA : ∀ t, ab_at t ∈ ts → (Jvm.Cond.arrayClass (newarray.typeOf t)).before args s = true)
    (hTG : ab_TG p l e R s m args below meth c D cl cc tb.1) (hTP : ab_TP p l e R s m args below meth c D cl cc tb.2.1) (hTN : ab_TN p l e R s m args below meth c D cl cc tb.2.2.1) (hTL : ab_TL p l e R s m args below meth c cc tb.2.2.2.1) (hTA : ab_TA s m args cc tb.2.2.2.2) (hAO : (Jvm.Cond.arrayOver (.array .int)).before args s = true)
    (hTC : ab_TC p l e R s m args below meth c D cl ty ts base nL MC MS QQ cc ca) {ins : ClassFile.Instr} {len : Nat} (hd : decode cc pc = .ok (ins, len))
    (hs : ab_s1 tb ts base ca rt MC MS K (ab_V p l e R s m args below meth c D cl ty ts base nL MC MS QQ) ins len pc ls st h k z) : (ab_V p l e R s m args below meth c D cl ty ts base nL MC MS QQ) pc ls st h k z := by
  have hcall : ∀ (i : Nat) (q : ACS) (ar : List AV × List AV), ca i = some q → decode cc pc = .ok (ab_iv q.1 i, 3) → ab_pop q.2.2.1 [] st = some ar → (ab_sz ar.2 ≤ 8 ∧ k + q.2.2.2.1 ≤ MC ∧ z + q.2.2.2.2.1 ≤ MS) → (q.1 = 0 → ab_rv ar.1 h q.2.1) → (q.2.2.2.2.2 ar.1 h fun rv h' => (ab_V p l e R s m args below meth c D cl ty ts base nL MC MS QQ) (pc + 3) ls (ab_ret rv ar.2) h' (k + q.2.2.2.1) (z + q.2.2.2.2.1)) → (ab_V p l e R s m args below meth c D cl ty ts base nL MC MS QQ) pc ls st h k z := by
    intro i q ar hq1 hdi hp hg hrv hq
    obtain ⟨g1, g2, g3⟩ := hg
    obtain ⟨p1, p2⟩ := ab_pop_el hp
    have e1 : st = ar.1.reverse ++ ar.2 := by rw [p1]; rfl
    rw [e1]
    exact hTC i q hq1 pc ls ar.1 ar.2 h k z _ hdi (by rw [p2]; simp) g1 g2 g3 hrv hq (fun rv h' hv => hv)
  cases ins
  case iconst n => obtain ⟨rfl, hs⟩ := hs; exact fun H locs lsA hR hS hL hk hz => lv_iconst hx hb hd rfl (hs H locs lsA hR hS hL hk hz)
  case bipush n => obtain ⟨rfl, hn, hs⟩ := hs; exact fun H locs lsA hR hS hL hk hz => lv_bipush hx hb hd (Int8.toInt32_ofInt (by have : Int8.minValue.toInt = -128 := rfl; omega) (by have : Int8.maxValue.toInt = 127 := rfl; omega)) (hs H locs lsA hR hS hL hk hz)
  case sipush n => obtain ⟨rfl, hn, hs⟩ := hs; exact fun H locs lsA hR hS hL hk hz => lv_sipush hx hb hd (Int16.toInt32_ofInt (by have : Int16.minValue.toInt = -32768 := rfl; omega) (by have : Int16.maxValue.toInt = 32767 := rfl; omega)) (hs H locs lsA hR hS hL hk hz)
  case aconst_null => obtain ⟨rfl, hs⟩ := hs; exact fun H locs lsA hR hS hL hk hz => lv_null hx hb hd (hs H locs lsA hR hS hL hk hz)
  case ldc i =>
    obtain ⟨rfl, hs1⟩ := hs
    obtain ⟨v, hv, hs2⟩ := ab_vI_el hs1
    exact fun H locs lsA hR hS hL hk hz => hTL.1 i v hv _ _ _ _ _ _ _ _ hd (hs2 H locs lsA hR hS hL hk hz)
  case ldc2_w i =>
    obtain ⟨rfl, hs1⟩ := hs
    obtain ⟨v, hv, hs2⟩ := ab_v2_el hs1
    exact fun H locs lsA hR hS hL hk hz => hTL.2 i v hv _ _ _ _ _ _ _ _ hd (hs2 H locs lsA hR hS hL hk hz)
  case iload i =>
    obtain ⟨rfl, hs1⟩ := hs
    obtain ⟨v, hv, hs2⟩ := ab_vI_el hs1
    exact fun H locs lsA hR hS hL hk hz => lv_iload hx hb hd (hL.2.2.2 _ _ hv) (hs2 H locs lsA hR hS hL hk hz)
  case iload_n i =>
    obtain ⟨rfl, hs1⟩ := hs
    obtain ⟨v, hv, hs2⟩ := ab_vI_el hs1
    exact fun H locs lsA hR hS hL hk hz => lv_iload_n hx hb hd rfl (hL.2.2.2 _ _ hv) (hs2 H locs lsA hR hS hL hk hz)
  case aload i =>
    obtain ⟨rfl, hs1⟩ := hs
    obtain ⟨v, hv, hs2⟩ := ab_vA_el hs1
    intro H locs lsA hR hS hL hk hz
    have hl := hL.2.2.2 _ _ hv
    have kk := hs2 H locs lsA hR hS hL hk hz
    cases v with
    | none => exact lv_aloadN hx hb hd hl kk
    | some a => exact lv_aload hx hb hd hl kk
  case aload_n i =>
    obtain ⟨rfl, hs1⟩ := hs
    obtain ⟨v, hv, hs2⟩ := ab_vA_el hs1
    intro H locs lsA hR hS hL hk hz
    have hl := hL.2.2.2 _ _ hv
    have kk := hs2 H locs lsA hR hS hL hk hz
    cases v with
    | none => exact lv_aload_nN hx hb hd rfl hl kk
    | some a => exact lv_aload_n hx hb hd rfl hl kk
  case istore i =>
    obtain ⟨rfl, hs1⟩ := hs
    obtain ⟨v, r, rfl, hs2⟩ := ab_I_el hs1
    obtain ⟨ls', hl, hs3⟩ := ab_so_el hs2
    exact fun H locs lsA hR hS hL hk hz => lv_istore hx hb hd hL.has (Nat.lt_of_lt_of_le (ab_st_len hl).2 hL.2.2.1) rfl (fun lsB hB => hs3 H locs lsB hR hS (hL.set hl hB) hk hz)
  case istore_n i =>
    obtain ⟨rfl, hs1⟩ := hs
    obtain ⟨v, r, rfl, hs2⟩ := ab_I_el hs1
    obtain ⟨ls', hl, hs3⟩ := ab_so_el hs2
    exact fun H locs lsA hR hS hL hk hz => lv_istore_n hx hb hd rfl hL.has (Nat.lt_of_lt_of_le (ab_st_len hl).2 hL.2.2.1) rfl (fun lsB hB => hs3 H locs lsB hR hS (hL.set hl hB) hk hz)
  case astore i =>
    obtain ⟨rfl, hs1⟩ := hs
    obtain ⟨v, r, rfl, hs2⟩ := ab_A_el hs1
    obtain ⟨ls', hl, hs3⟩ := ab_so_el hs2
    intro H locs lsA hR hS hL hk hz
    have hi := Nat.lt_of_lt_of_le (ab_st_len hl).2 hL.2.2.1
    cases v with
    | none => exact lv_astoreN hx hb hd hL.has hi rfl (fun lsB hB => hs3 H locs lsB hR hS (hL.set hl hB) hk hz)
    | some a => exact lv_astore hx hb hd hL.has hi rfl (fun lsB hB => hs3 H locs lsB hR hS (hL.set hl hB) hk hz)
  case astore_n i =>
    obtain ⟨rfl, hs1⟩ := hs
    obtain ⟨v, r, rfl, hs2⟩ := ab_A_el hs1
    obtain ⟨ls', hl, hs3⟩ := ab_so_el hs2
    intro H locs lsA hR hS hL hk hz
    have hi := Nat.lt_of_lt_of_le (ab_st_len hl).2 hL.2.2.1
    cases v with
    | none => exact lv_astore_nN hx hb hd rfl hL.has hi rfl (fun lsB hB => hs3 H locs lsB hR hS (hL.set hl hB) hk hz)
    | some a => exact lv_astore_n hx hb hd rfl hL.has hi rfl (fun lsB hB => hs3 H locs lsB hR hS (hL.set hl hB) hk hz)
  case iinc i n =>
    obtain ⟨rfl, hs1⟩ := hs
    obtain ⟨v, hv, hs2⟩ := ab_vI_el hs1
    obtain ⟨ls', hl, hs3⟩ := ab_so_el hs2
    intro H locs lsA hR hS hL hk hz
    obtain ⟨j, hj⟩ := List.getElem?_of_mem (ab_as_mem hv)
    exact lv_iinc (v := Int32.ofInt (v + n)) hx hb hd hL.has hj (Int32.ofInt_add v n).symm (Nat.lt_of_lt_of_le (ab_st_len hl).2 hL.2.2.1) rfl (fun lsB hB => hs3 H locs lsB hR hS (hL.set hl hB) hk hz)
  case iadd =>
    obtain ⟨rfl, hs1⟩ := hs
    obtain ⟨a, b, r, rfl, hs2⟩ := ab_II_el hs1
    intro H locs lsA hR hS hL hk hz
    have kk := hs2 H locs lsA hR hS hL hk hz
    simp only [List.map_cons, ab_v, Int32.ofInt_add] at kk
    exact lv_iadd hx hb hd kk
  case isub =>
    obtain ⟨rfl, hs1⟩ := hs
    obtain ⟨a, b, r, rfl, hs2⟩ := ab_II_el hs1
    intro H locs lsA hR hS hL hk hz
    have kk := hs2 H locs lsA hR hS hL hk hz
    simp only [List.map_cons, ab_v, Int32.ofInt_sub] at kk
    exact lv_isub hx hb hd kk
  case imul =>
    obtain ⟨rfl, hs1⟩ := hs
    obtain ⟨a, b, r, rfl, hs2⟩ := ab_II_el hs1
    intro H locs lsA hR hS hL hk hz
    have kk := hs2 H locs lsA hR hS hL hk hz
    simp only [List.map_cons, ab_v, Int32.ofInt_mul] at kk
    exact lv_imul hx hb hd kk
  case idiv =>
    obtain ⟨rfl, hs1⟩ := hs
    obtain ⟨a, b, r, rfl, ⟨ha, hb2, hne⟩, hs2⟩ := ab_II_el hs1
    intro H locs lsA hR hS hL hk hz
    have kk := hs2 H locs lsA hR hS hL hk hz
    have e1 : Int32.ofInt (Int.tdiv a b) = Int32.ofInt a / Int32.ofInt b := by
      rw [← Int32.ofInt_toInt (Int32.ofInt a / Int32.ofInt b), Int32.toInt_div, ab_int ha, ab_int hb2]
      exact (Int32.ofInt_eq_iff_bmod_eq_toInt _ _).mpr (by rw [Int32.toInt_ofInt]; exact (Int.bmod_bmod).symm)
    simp only [List.map_cons, ab_v, e1] at kk
    exact lv_idiv hx hb hd (fun q => hne ((ab_cmp_eq hb2 ab_in0).mp q)) kk
  case irem =>
    obtain ⟨rfl, hs1⟩ := hs
    obtain ⟨a, b, r, rfl, ⟨ha, hb2, hne⟩, hs2⟩ := ab_II_el hs1
    intro H locs lsA hR hS hL hk hz
    have kk := hs2 H locs lsA hR hS hL hk hz
    have e1 : Int32.ofInt (Int.tmod a b) = Int32.ofInt a - Int32.ofInt a / Int32.ofInt b * Int32.ofInt b := by
      rw [← Int32.ofInt_toInt (Int32.ofInt a - Int32.ofInt a / Int32.ofInt b * Int32.ofInt b), rem_toInt, ab_int ha, ab_int hb2]
    simp only [List.map_cons, ab_v, e1] at kk
    exact lv_irem hx hb hd (fun q => hne ((ab_cmp_eq hb2 ab_in0).mp q)) kk
  case iand =>
    obtain ⟨rfl, hs1⟩ := hs
    obtain ⟨a, b, r, rfl, hs2⟩ := ab_II_el hs1
    intro H locs lsA hR hS hL hk hz
    have kk := hs2 H locs lsA hR hS hL hk hz
    simp only [List.map_cons, ab_v, Int32.ofInt_toInt] at kk
    exact lv_iand hx hb hd kk
  case ior =>
    obtain ⟨rfl, hs1⟩ := hs
    obtain ⟨a, b, r, rfl, hs2⟩ := ab_II_el hs1
    intro H locs lsA hR hS hL hk hz
    have kk := hs2 H locs lsA hR hS hL hk hz
    simp only [List.map_cons, ab_v, Int32.ofInt_toInt] at kk
    exact lv_ior hx hb hd kk
  case ixor =>
    obtain ⟨rfl, hs1⟩ := hs
    obtain ⟨a, b, r, rfl, hs2⟩ := ab_II_el hs1
    intro H locs lsA hR hS hL hk hz
    have kk := hs2 H locs lsA hR hS hL hk hz
    simp only [List.map_cons, ab_v, Int32.ofInt_toInt] at kk
    exact lv_ixor hx hb hd kk
  case ishr =>
    obtain ⟨rfl, hs1⟩ := hs
    obtain ⟨a, b, r, rfl, hs2⟩ := ab_II_el hs1
    intro H locs lsA hR hS hL hk hz
    have kk := hs2 H locs lsA hR hS hL hk hz
    simp only [List.map_cons, ab_v, Int32.ofInt_toInt] at kk
    exact lv_ishr hx hb hd kk
  case if_icmp cd off =>
    obtain ⟨rfl, hn, hs1⟩ := hs
    obtain ⟨a, b, r, rfl, ⟨ha, hb2⟩, kt, kf⟩ := ab_II_el hs1
    exact as_icmp hx hb hd hn ha hb2 kt kf
  case ifCond cd off =>
    obtain ⟨rfl, hn, hs1⟩ := hs
    obtain ⟨a, r, rfl, ha, kt, kf⟩ := ab_I_el hs1
    exact as_if hx hb hd hn ha kt kf
  case ifnull off =>
    obtain ⟨rfl, hs1⟩ := hs
    obtain ⟨a, r, rfl, kt, kf⟩ := ab_A_el hs1
    intro H locs lsA hR hS hL hk hz
    cases a with
    | none => exact lv_ifnullN hx hb hd (Int.toNat_of_nonneg (kt rfl).1).symm ((kt rfl).2 H locs lsA hR hS hL hk hz)
    | some a => exact lv_ifnull hx hb hd (kf (fun q => by cases q) H locs lsA hR hS hL hk hz)
  case ifnonnull off =>
    obtain ⟨rfl, hs1⟩ := hs
    obtain ⟨a, r, rfl, kt, kf⟩ := ab_A_el hs1
    intro H locs lsA hR hS hL hk hz
    cases a with
    | none => exact lv_ifnonnullN hx hb hd (kf rfl H locs lsA hR hS hL hk hz)
    | some a => exact lv_ifnonnull hx hb hd (Int.toNat_of_nonneg (kt (fun q => by cases q)).1).symm ((kt (fun q => by cases q)).2 H locs lsA hR hS hL hk hz)
  case goto off => obtain ⟨rfl, hs⟩ := hs; exact as_goto hx hb hd hs
  case tableswitch d lo hi offs =>
    obtain ⟨hhi, hs1⟩ := hs
    obtain ⟨v, r, rfl, hv, k1, k2⟩ := ab_I_el hs1
    intro H locs lsA hR hS hL hk hz
    by_cases hc : v < lo ∨ hi < v
    · exact lv_tableOut hx hb hd (by rw [ab_int hv]; exact hc) (Int.toNat_of_nonneg (k1 hc).1).symm ((k1 hc).2 H locs lsA hR hS hL hk hz)
    · obtain ⟨off, g1, g2⟩ := ab_tsw_el k2 (by omega) (by rw [Array.length_toList]; omega)
      exact lv_tableIn hx hb hd (by rw [ab_int hv]; omega) (by rw [ab_int hv]; omega) (by rw [ab_int hv, ← Array.getElem?_toList]; exact g1) (Int.toNat_of_nonneg g2.1).symm (g2.2 H locs lsA hR hS hL hk hz)
  case lookupswitch d ps =>
    obtain ⟨hps, hs1⟩ := hs
    obtain ⟨v, r, rfl, hv, k1⟩ := ab_I_el hs1
    intro H locs lsA hR hS hL hk hz
    have g := ab_lsw_el k1
    exact lv_lookup (off := Op.lookupswitch.offset ps.toList d v) hx hb hd hps (by rw [ab_int hv]) (Int.toNat_of_nonneg g.1).symm (g.2 H locs lsA hR hS hL hk hz)
  case getfield i =>
    obtain ⟨rfl, hs1⟩ := hs
    obtain ⟨q, hq, hs2⟩ := ab_so_el hs1
    obtain ⟨a, r, rfl, hs3⟩ := ab_Rf_el hs2
    obtain ⟨ci, fs, ho, rfl, hs4⟩ := ab_ob_el hs3
    obtain ⟨v, hv, hs5⟩ := ab_so_el hs4
    intro H locs lsA hR hS hL hk hz
    exact hTG i q hq _ _ _ _ _ _ _ _ a (fs.map ab_v) (ab_v v) hd (hR.2 a _ ho).1 (by rw [List.getElem?_map, hv]; rfl) (hs5 H locs lsA hR hS hL hk hz)
  case putfield i =>
    obtain ⟨rfl, hs1⟩ := hs
    obtain ⟨q, hq, hs2⟩ := ab_so_el hs1
    obtain ⟨v, a, r, rfl, hs3⟩ := ab_VR_el hs2
    obtain ⟨ci, fs, ho, ⟨rfl, hlt, hfit⟩, hs4⟩ := ab_ob_el hs3
    intro H locs lsA hR hS hL hk hz
    obtain ⟨q1, q2⟩ := hR.2 a _ ho
    refine hTP i q hq _ _ _ _ _ _ _ _ a (fs.map ab_v) v hd q1 (by rw [List.length_map]; exact hlt) hfit (fun H1 j w1 z1 oq => ?_)
    rw [← List.map_set] at w1
    exact hs4 H1 _ lsA (hR.put z1 oq w1 q2) (hS.put z1 oq q2) hL hk hz
  case iaload =>
    obtain ⟨rfl, hs1⟩ := hs
    obtain ⟨i, a, r, rfl, hs2⟩ := ab_IR_el hs1
    obtain ⟨t, n, f, ho, h1, hs3⟩ := ab_pr_el hs2
    exact as_iaload hx hb hT hd ho h1 hs3
  case baload =>
    obtain ⟨rfl, hs1⟩ := hs
    obtain ⟨i, a, r, rfl, hs2⟩ := ab_IR_el hs1
    obtain ⟨t, n, f, ho, h1, hs3⟩ := ab_pr_el hs2
    exact as_baload hx hb hT hd ho h1 hs3
  case aaload =>
    obtain ⟨rfl, hs1⟩ := hs
    obtain ⟨i, a, r, rfl, hs2⟩ := ab_IR_el hs1
    obtain ⟨t, n, f, ho, h1, hs3⟩ := ab_qr_el hs2
    exact as_aaload hx hb hT hd ho h1 hs3
  case iastore =>
    obtain ⟨rfl, hs1⟩ := hs
    obtain ⟨v, i, a, r, rfl, hs2⟩ := ab_VIR_el hs1
    obtain ⟨t, n, f, ho, h1, hs3⟩ := ab_pr_el hs2
    obtain ⟨x, hxv, hs4⟩ := ab_vI_el hs3
    cases hxv
    exact as_iastore hx hb hT hd ho h1 hs4
  case bastore =>
    obtain ⟨rfl, hs1⟩ := hs
    obtain ⟨v, i, a, r, rfl, hs2⟩ := ab_VIR_el hs1
    obtain ⟨t, n, f, ho, h1, hs3⟩ := ab_pr_el hs2
    obtain ⟨x, hxv, h01, hs4⟩ := ab_vI_el hs3
    cases hxv
    exact as_bastore hx hb hT hd ho h1 h01 hs4
  case arraylength =>
    obtain ⟨rfl, hs1⟩ := hs
    obtain ⟨a, r, rfl, hs2⟩ := ab_Rf_el hs1
    exact as_alen hx hb hT hd hs2 (fun n hn => hn)
  case newarray t =>
    obtain ⟨rfl, hs1⟩ := hs
    obtain ⟨n, r, rfl, h1, hs2⟩ := ab_I_el hs1
    exact as_newa hx hb hT (hA t h1.1) hRC hd h1 hs2
  case new i =>
    obtain ⟨rfl, hs1⟩ := hs
    obtain ⟨q, hq, ⟨h1, h2⟩, hs2⟩ := ab_so_el hs1
    intro H locs lsA hR hS hL hk hz
    refine hTN i q hq _ _ _ _ _ _ _ _ hd (by rw [hRC.1]; exact h1) (by rw [hRC.2]; exact h2) (fun H1 w1 z1 o1 => ?_)
    exact hs2 H.size hR.fresh hR.1 H1 _ lsA (hR.push z1 o1 w1 hR.1) ⟨Nat.le_trans hS.1 (by omega), fun q hq hq2 => (o1 q (Nat.lt_of_lt_of_le hq hS.1)).trans (hS.2.1 q hq hq2), hS.2.2⟩ hL h1 h2
  case dup =>
    obtain ⟨rfl, hs1⟩ := hs
    obtain ⟨v, r, rfl, hc, hs2⟩ := ab_1_el hs1
    exact fun H locs lsA hR hS hL hk hz => lv_dup hx hb hd hc (hs2 H locs lsA hR hS hL hk hz)
  case dup2 =>
    obtain ⟨rfl, hs1⟩ := hs
    obtain ⟨v, r, rfl, hc, hs2⟩ := ab_1_el hs1
    obtain ⟨w, r, rfl, hc2, hs3⟩ := ab_1_el hs2
    exact fun H locs lsA hR hS hL hk hz => lv_dup2_11 hx hb hd hc hc2 (hs3 H locs lsA hR hS hL hk hz)
  case pop =>
    obtain ⟨rfl, hs1⟩ := hs
    obtain ⟨v, r, rfl, hc, hs2⟩ := ab_1_el hs1
    exact fun H locs lsA hR hS hL hk hz => lv_pop hx hb hd hc (hs2 H locs lsA hR hS hL hk hz)
  case invokevirtual i =>
    obtain ⟨rfl, hs1⟩ := hs
    obtain ⟨q, hq, hk0, hs2⟩ := ab_so_el hs1
    obtain ⟨ar, hp, hg, hs3⟩ := ab_so_el hs2
    exact hcall i q ar hq (by rcases hk0 with hk0 | hk0 <;> (rw [hk0]; exact hd)) hp ⟨hg.1, hg.2.1, hg.2.2.1⟩ hg.2.2.2 hs3
  case invokespecial i =>
    obtain ⟨rfl, hs1⟩ := hs
    obtain ⟨q, hq, hk0, hs2⟩ := ab_so_el hs1
    obtain ⟨ar, hp, hg, hs3⟩ := ab_so_el hs2
    exact hcall i q ar hq (by rw [hk0]; exact hd) hp ⟨hg.1, hg.2.1, hg.2.2⟩ (fun q0 => absurd (hk0.symm.trans q0) (by decide)) hs3
  case invokestatic i =>
    obtain ⟨rfl, hs1⟩ := hs
    obtain ⟨q, hq, hk0, hs2⟩ := ab_so_el hs1
    obtain ⟨ar, hp, hg, hs3⟩ := ab_so_el hs2
    exact hcall i q ar hq (by rw [hk0]; exact hd) hp ⟨hg.1, hg.2.1, hg.2.2⟩ (fun q0 => absurd (hk0.symm.trans q0) (by decide)) hs3
  case ireturn =>
    obtain ⟨rfl, hs1⟩ := hs
    obtain ⟨v, r, rfl, ⟨rfl, h1⟩, hs2⟩ := ab_I_el hs1
    intro H locs lsA hR hS hL hk hz
    refine ab_Wq hQQ (W.widen hk hz ?_)
    have hq : ∀ t : State, t.heap = H → s.WarmedH t.vm → ab_Q D cl ty ts base K args s (.returned (some (.int (Int32.ofInt v)))) t := fun t ht hW => ⟨some (.inl v), h, rfl, hs2, by rw [ht]; exact hR.moved hW.alike, hS.F ht⟩
    cases hq9 : meth.sig.returnType with
    | none => rw [hq9] at hrt; subst hrt; rcases h1 with h1 | h1 <;> simp [ab_rk] at h1
    | some rty =>
      rw [hq9] at hrt
      cases rty <;> first | (subst hrt; rcases h1 with h1 | h1 <;> simp [ab_rk] at h1; done) | skip
      · exact W.iret hx hb hq9 hq hS.2.2 hd hlocks
      · have h2 : v = 0 ∨ v = 1 := by subst hrt; rcases h1 with h1 | h1; simp [ab_rk] at h1; exact h1.2
        exact W.zret hx hb hq9 (by rcases h2 with rfl | rfl <;> rfl) hq hS.2.2 hd hlocks
  case areturn =>
    obtain ⟨rfl, hs1⟩ := hs
    obtain ⟨v, r, rfl, ⟨rfl, h1⟩, hs2⟩ := ab_A_el hs1
    intro H locs lsA hR hS hL hk hz
    refine ab_Wq hQQ (W.widen hk hz ?_)
    have hq : ∀ t : State, t.heap = H → s.WarmedH t.vm → ab_Q D cl ty ts base K args s (.returned (some (va_rf v))) t := fun t ht hW => ⟨some (.inr (.inl v)), h, rfl, hs2, by rw [ht]; exact hR.moved hW.alike, hS.F ht⟩
    have hv : va_rf v = .null ∨ ∃ a, va_rf v = .ref a := by cases v with
      | none => exact Or.inl rfl
      | some a => exact Or.inr ⟨a, rfl⟩
    cases hq9 : meth.sig.returnType with
    | none => rw [hq9] at hrt; subst hrt; simp [ab_rk] at h1
    | some rty =>
      rw [hq9] at hrt
      cases rty <;> first | (subst hrt; simp [ab_rk] at h1; done) | skip
      · exact W.aret hx hb hq9 (Or.inl ⟨_, rfl⟩) hv hq hS.2.2 hd hlocks
      · exact W.aret hx hb hq9 (Or.inr ⟨_, rfl⟩) hv hq hS.2.2 hd hlocks
  case dreturn =>
    obtain ⟨rfl, hs1⟩ := hs
    obtain ⟨v, hv, ⟨h0, h1⟩, hs2⟩ := ab_vD_el hs1
    intro H locs lsA hR hS hL hk hz
    refine ab_Wq hQQ (W.widen hk hz ?_)
    have hst : st = [.inr (.inr (.inr v))] := by
      cases st with
      | nil => cases hv
      | cons x r => cases hv; rw [show r = [] from h0]
    subst hst
    have hq : ∀ t : State, t.heap = H → s.WarmedH t.vm → ab_Q D cl ty ts base K args s (.returned (some (.double v))) t := fun t ht hW => ⟨some (.inr (.inr (.inr v))), h, rfl, hs2, by rw [ht]; exact hR.moved hW.alike, hS.F ht⟩
    cases hq9 : meth.sig.returnType with
    | none => rw [hq9] at hrt; subst hrt; simp [ab_rk] at h1
    | some rty =>
      rw [hq9] at hrt
      cases rty <;> first | (subst hrt; simp [ab_rk] at h1; done) | skip
      · exact W.dret hx hb hq9 hq hS.2.2 hd hlocks
  case return_ =>
    obtain ⟨rfl, ⟨rfl, h1⟩, hs1⟩ := hs
    intro H locs lsA hR hS hL hk hz
    refine ab_Wq hQQ (W.widen hk hz ?_)
    have hq : ∀ t : State, t.heap = H → s.WarmedH t.vm → ab_Q D cl ty ts base K args s (.returned none) t := fun t ht hW => ⟨none, h, rfl, hs1, by rw [ht]; exact hR.moved hW.alike, hS.F ht⟩
    cases hq9 : meth.sig.returnType with
    | none => exact W.vret hx hb hq9 hq hS.2.2 hd hlocks
    | some rty =>
      rw [hq9] at hrt
      cases rty <;> (subst hrt; simp [ab_rk] at h1)
  case i2d =>
    obtain ⟨rfl, hs1⟩ := hs
    obtain ⟨v, r, rfl, hs2⟩ := ab_I_el hs1
    exact fun H locs lsA hR hS hL hk hz => lv_i2d hx hb hd (hs2 H locs lsA hR hS hL hk hz)
  case ddiv =>
    obtain ⟨rfl, hs1⟩ := hs
    obtain ⟨a, b, r, rfl, h1, hs2⟩ := ab_DD_el hs1
    exact fun H locs lsA hR hS hL hk hz => lv_ddiv hx hb hd h1 (hs2 H locs lsA hR hS hL hk hz)
  case dcmp op =>
    obtain ⟨rfl, hs1⟩ := hs
    obtain ⟨a, b, r, rfl, hs2⟩ := ab_DD_el hs1
    intro H locs lsA hR hS hL hk hz
    have kk := hs2 H locs lsA hR hS hL hk hz
    simp only [List.map_cons, ab_v, Int32.ofInt_toInt] at kk
    exact lv_dcmp hx hb hd kk
  case lload i =>
    obtain ⟨rfl, hs1⟩ := hs
    obtain ⟨v, hv, hs2⟩ := ab_vL_el hs1
    exact fun H locs lsA hR hS hL hk hz => lv_lload hx hb hd (hL.2.2.2 _ _ hv) (hs2 H locs lsA hR hS hL hk hz)
  case lload_n i =>
    obtain ⟨rfl, hs1⟩ := hs
    obtain ⟨v, hv, hs2⟩ := ab_vL_el hs1
    exact fun H locs lsA hR hS hL hk hz => lv_lload_n hx hb hd rfl (hL.2.2.2 _ _ hv) (hs2 H locs lsA hR hS hL hk hz)
  case lstore i =>
    obtain ⟨rfl, hs1⟩ := hs
    obtain ⟨v, hv, hs2⟩ := ab_vL_el hs1
    obtain ⟨l1, hl1, hs3⟩ := ab_so_el hs2
    obtain ⟨ls', hl, hs4⟩ := ab_so_el hs3
    cases st with
    | nil => cases hv
    | cons x r =>
      cases hv
      exact fun H locs lsA hR hS hL hk hz => lv_lstore hx hb hd hL.has (ab_cl_lt hL.2.2.1 hl1 hl) rfl (fun lsB hB => hs4 H locs lsB hR hS (hL.set2 hl1 hl hB) hk hz)
  case lstore_n i =>
    obtain ⟨rfl, hs1⟩ := hs
    obtain ⟨v, hv, hs2⟩ := ab_vL_el hs1
    obtain ⟨l1, hl1, hs3⟩ := ab_so_el hs2
    obtain ⟨ls', hl, hs4⟩ := ab_so_el hs3
    cases st with
    | nil => cases hv
    | cons x r =>
      cases hv
      exact fun H locs lsA hR hS hL hk hz => lv_lstore_n hx hb hd rfl hL.has (ab_cl_lt hL.2.2.1 hl1 hl) rfl (fun lsB hB => hs4 H locs lsB hR hS (hL.set2 hl1 hl hB) hk hz)
  case dload i =>
    obtain ⟨rfl, hs1⟩ := hs
    obtain ⟨v, hv, hs2⟩ := ab_vD_el hs1
    exact fun H locs lsA hR hS hL hk hz => lv_dload hx hb hd (hL.2.2.2 _ _ hv) (hs2 H locs lsA hR hS hL hk hz)
  case dload_n i =>
    obtain ⟨rfl, hs1⟩ := hs
    obtain ⟨v, hv, hs2⟩ := ab_vD_el hs1
    exact fun H locs lsA hR hS hL hk hz => lv_dload_n hx hb hd rfl (hL.2.2.2 _ _ hv) (hs2 H locs lsA hR hS hL hk hz)
  case dstore i =>
    obtain ⟨rfl, hs1⟩ := hs
    obtain ⟨v, hv, hs2⟩ := ab_vD_el hs1
    obtain ⟨l1, hl1, hs3⟩ := ab_so_el hs2
    obtain ⟨ls', hl, hs4⟩ := ab_so_el hs3
    cases st with
    | nil => cases hv
    | cons x r =>
      cases hv
      exact fun H locs lsA hR hS hL hk hz => lv_dstore hx hb hd hL.has (ab_cl_lt hL.2.2.1 hl1 hl) rfl (fun lsB hB => hs4 H locs lsB hR hS (hL.set2 hl1 hl hB) hk hz)
  case dstore_n i =>
    obtain ⟨rfl, hs1⟩ := hs
    obtain ⟨v, hv, hs2⟩ := ab_vD_el hs1
    obtain ⟨l1, hl1, hs3⟩ := ab_so_el hs2
    obtain ⟨ls', hl, hs4⟩ := ab_so_el hs3
    cases st with
    | nil => cases hv
    | cons x r =>
      cases hv
      exact fun H locs lsA hR hS hL hk hz => lv_dstore_n hx hb hd rfl hL.has (ab_cl_lt hL.2.2.1 hl1 hl) rfl (fun lsB hB => hs4 H locs lsB hR hS (hL.set2 hl1 hl hB) hk hz)
  case ladd =>
    obtain ⟨rfl, hs1⟩ := hs
    obtain ⟨a, b, r, rfl, hs2⟩ := ab_LL_el hs1
    intro H locs lsA hR hS hL hk hz
    have kk := hs2 H locs lsA hR hS hL hk hz
    simp only [List.map_cons, ab_v, Int64.ofInt_add] at kk
    exact lv_ladd hx hb hd kk
  case lmul =>
    obtain ⟨rfl, hs1⟩ := hs
    obtain ⟨a, b, r, rfl, hs2⟩ := ab_LL_el hs1
    intro H locs lsA hR hS hL hk hz
    have kk := hs2 H locs lsA hR hS hL hk hz
    simp only [List.map_cons, ab_v, Int64.ofInt_mul] at kk
    exact lv_lmul hx hb hd kk
  case i2l =>
    obtain ⟨rfl, hs1⟩ := hs
    obtain ⟨v, r, rfl, hv, hs2⟩ := ab_I_el hs1
    intro H locs lsA hR hS hL hk hz
    exact lv_i2l (v := Int64.ofInt v) hx hb hd (by rw [← ab_int hv, Int32.ofInt_toInt, Int64.ofInt_int32ToInt]) (hs2 H locs lsA hR hS hL hk hz)
  case lcmp =>
    obtain ⟨rfl, hs1⟩ := hs
    obtain ⟨a, b, r, rfl, h1, h2⟩ := ab_LL_el hs1
    intro H locs lsA hR hS hL hk hz
    refine W.lcmp hx hb hd ?_
    by_cases hab : a = b
    · have e1 : lg_cmp (Int64.ofInt a) (Int64.ofInt b) = Int32.ofInt 0 := by subst hab; simp [lg_cmp]
      rw [e1]
      exact h1 hab H locs lsA hR hS hL hk hz
    · obtain ⟨⟨ha, hb9⟩, kk⟩ := h2 hab
      have e2 : ∀ v : Int, ab_in v → (Int64.ofInt v).toInt = v := fun v hv => Int64.toInt_ofInt_of_le (by have := hv.1; have : Int64.minValue.toInt = -9223372036854775808 := rfl; omega) (by have := hv.2; have : Int64.maxValue.toInt = 9223372036854775807 := rfl; omega)
      have e3 : lg_cmp (Int64.ofInt a) (Int64.ofInt b) = Int32.ofInt (if b < a then 1 else -1) := by
        unfold lg_cmp
        have c1 : Int64.ofInt b < Int64.ofInt a ↔ b < a := by rw [Int64.lt_iff_toInt_lt, e2 _ ha, e2 _ hb9]
        have c2 : ¬ Int64.ofInt a = Int64.ofInt b := fun q => hab (by have := congrArg Int64.toInt q; rwa [e2 _ ha, e2 _ hb9] at this)
        by_cases hlt : b < a
        · simp [hlt, c1.mpr hlt]
        · have c3 : ¬ Int64.ofInt b < Int64.ofInt a := fun q => hlt (c1.mp q)
          simp [hlt, c2, c3]
      rw [e3]
      exact kk H locs lsA hR hS hL hk hz
  case lreturn =>
    obtain ⟨rfl, hs1⟩ := hs
    obtain ⟨v, hv, ⟨h0, h1⟩, hs2⟩ := ab_vL_el hs1
    intro H locs lsA hR hS hL hk hz
    refine ab_Wq hQQ (W.widen hk hz ?_)
    have hst : st = [.inr (.inr (.inl v))] := by
      cases st with
      | nil => cases hv
      | cons x r => cases hv; rw [show r = [] from h0]
    subst hst
    have hq : ∀ t : State, t.heap = H → s.WarmedH t.vm → ab_Q D cl ty ts base K args s (.returned (some (.long (Int64.ofInt v)))) t := fun t ht hW => ⟨some (.inr (.inr (.inl v))), h, rfl, hs2, by rw [ht]; exact hR.moved hW.alike, hS.F ht⟩
    cases hq9 : meth.sig.returnType with
    | none => rw [hq9] at hrt; subst hrt; simp [ab_rk] at h1
    | some rty =>
      rw [hq9] at hrt
      cases rty <;> first | (subst hrt; simp [ab_rk] at h1; done) | skip
      · exact W.lret hx hb hq9 hq hS.2.2 hd hlocks
  case laload =>
    obtain ⟨rfl, hs1⟩ := hs
    obtain ⟨i, a, r, rfl, hs2⟩ := ab_IR_el hs1
    obtain ⟨t, n, f, ho, h1, hs3⟩ := ab_pr_el hs2
    exact as_laload hx hb hT hd ho h1 hs3
  case lastore =>
    obtain ⟨rfl, hs1⟩ := hs
    obtain ⟨v, i, a, r, rfl, hs2⟩ := ab_VIR_el hs1
    obtain ⟨t, n, f, ho, h1, hs3⟩ := ab_pr_el hs2
    obtain ⟨x, hxv, hs4⟩ := ab_vL_el hs3
    cases hxv
    exact as_lastore hx hb hT hd ho h1 hs4
  case anewarray i =>
    obtain ⟨rfl, hs1⟩ := hs
    obtain ⟨q, hq, rfl, hs2⟩ := ab_so_el hs1
    obtain ⟨n, r, rfl, h1, hs3⟩ := ab_I_el hs2
    obtain ⟨own, ho1, ho2⟩ := hTA i 0 hq
    exact as_anew hx hb hT ho1 ho2 hAO hRC hd h1 hs3
  case aastore =>
    obtain ⟨rfl, hs1⟩ := hs
    obtain ⟨v, i, a, r, rfl, hs2⟩ := ab_VIR_el hs1
    obtain ⟨t, n, f, ho, h1, hs3⟩ := ab_qr_el hs2
    obtain ⟨q, r9, hv, hs4⟩ := ab_Rf_el hs3
    obtain ⟨t1, n1, g, hq, ht, hs5⟩ := ab_pr_el hs4
    cases hv
    exact as_aastore hx hb hT hd ho h1 hq ht hs5
  case checkcast i =>
    obtain ⟨rfl, hs1⟩ := hs
    obtain ⟨q, hq, rfl, hs2⟩ := ab_so_el hs1
    obtain ⟨a, r, rfl, hs3⟩ := ab_Rf_el hs2
    obtain ⟨t, n, f, ho, ht, hs4⟩ := ab_pr_el hs3
    obtain ⟨own, ho1, ho2⟩ := hTA i 0 hq
    exact as_cast hx hb hT ho1 ho2 hd ho ht hs4
  case multianewarray i d =>
    obtain ⟨rfl, rfl, hs1⟩ := hs
    obtain ⟨q, hq, rfl, hs2⟩ := ab_so_el hs1
    obtain ⟨n, m, r, rfl, h1, hs3⟩ := ab_II_el hs2
    obtain ⟨own, ho1, ho2⟩ := hTA i 1 hq
    exact as_mnew hx hb hT ho1 ho2 hAO (hA .int h1.1.2) hRC hd h1 hs3
  all_goals exact False.elim hs
end ABS
