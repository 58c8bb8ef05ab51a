/-! ===== the abstract machine is the kit's: what it says of a text holds of the machine ===== -/
def ab_v : AV → Value
  | .inl v => .int (Int32.ofInt v)
  | .inr (.inl r) => va_rf r
  | .inr (.inr (.inl v)) => .long (Int64.ofInt v)
  | .inr (.inr (.inr d)) => .double d
theorem ab_cat (v : AV) : (ab_v v).category = if ab_2 v then 2 else 1 := by
  rcases v with v | r | v | d
  · rfl
  · cases r <;> rfl
  · rfl
  · rfl
def ab_E (ty : Nat → ClassId) : AC → va_E
  | .inl (ci, fs) => .inr (ci, fs.map ab_v)
  | .inr (.inl (t, n, f)) => if t = 2 then .inl (ty 2, n, .inr (.inl fun j => Int64.ofInt (f (j : Int)))) else .inl (ty t, n, .inl fun j => Int32.ofInt (f (j : Int)))
  | .inr (.inr (t, n, f)) => .inl (ty t, n, .inr (.inr (.inr (.inr fun j => f (j : Int)))))
def ab_T (U : State) (t : Nat) (c : ClassId) : Prop := match t with
  | 0 => ArrOfT U c .int ∧ U.vm.findClass ("[" ++ FieldType.int.toString) = some c
  | 1 => ArrOfT U c .boolean ∧ U.vm.findClass ("[" ++ FieldType.boolean.toString) = some c
  | 2 => ArrOfT U c .long ∧ U.vm.findClass ("[" ++ FieldType.long.toString) = some c
  | 3 => ArrOfT U c (.array .int) ∧ U.vm.findClass ("[" ++ (FieldType.array .int).toString) = some c
  | _ => False
theorem ab_T.moved {u U : State} (hvm : u.vm.Alike U.vm) {t : Nat} {c : ClassId} (h : ab_T u t c) : ab_T U t c := by
  match t, h with
  | 0, h => exact ⟨arrOfT_moved hvm h.1, by rw [hvm.findClass]; exact h.2⟩
  | 1, h => exact ⟨arrOfT_moved hvm h.1, by rw [hvm.findClass]; exact h.2⟩
  | 2, h => exact ⟨arrOfT_moved hvm h.1, by rw [hvm.findClass]; exact h.2⟩
  | 3, h => exact ⟨arrOfT_moved hvm h.1, by rw [hvm.findClass]; exact h.2⟩
/-- words that stay true while the tables warm -/
def ab_ok (w : Jvm.Cond) : Bool := goodWord w || (match w with
  | .fieldLinkNest .. => true
  | .methodLinkNest .. => true
  | _ => false)
theorem ab_warm {args a' : Array Value} {s U : State} {w : Jvm.Cond} (hW : s.WarmedH U.vm) (hw : ab_ok w = true) (h : w.before args s = true) : w.before a' U = true := by
  unfold ab_ok at hw
  rcases Bool.or_eq_true _ _ |>.mp hw with h1 | h1
  · exact word_at hW (good_of_word h1) h
  · split at h1
    · exact va_Nw.use rfl (va_Nw.warmF hW (va_Nw.of rfl h))
    · exact va_Nw.use rfl (va_Nw.warmM hW (va_Nw.of rfl h))
    · cases h1
def ab_F (D : va_G) (cl : List vw_C) (ty : Nat → ClassId) (ts : List Nat) (wd : List Jvm.Cond) (U : State) : Prop :=
  (∀ (c : Nat) (q : vw_C), cl[c]? = some q → u_Kn U q.1 q.2.1 q.2.2 (D.1 c) (D.2 c)) ∧ (∀ t ∈ ts, ab_T U t (ty t)) ∧ ∀ w ∈ wd, w.before #[] U = true
theorem ab_F.warm {D : va_G} {cl : List vw_C} {ty : Nat → ClassId} {ts : List Nat} {wd : List Jvm.Cond} {s U : State} (hwd : ∀ w ∈ wd, ab_ok w = true) (hW : s.WarmedH U.vm) (h : ab_F D cl ty ts wd s) : ab_F D cl ty ts wd U :=
  ⟨fun c q hq => u_Kn_moved hW.alike (h.1 c q hq), fun t ht => (h.2.1 t ht).moved hW.alike, fun w hw => ab_warm hW (hwd w hw) (h.2.2 w hw)⟩
def ab_ac (D : va_G) (cl : List vw_C) (ty : Nat → ClassId) (U : State) (a : Nat) (c : AC) (H : Heap) : Prop := match c with
  | .inr (.inl (t, n, f)) => if t = 9 then va_X a n (fun j => Int32.ofInt (f (j : Int))) U H else va_at D cl (a, ab_E ty (.inr (.inl (t, n, f)))) H
  | .inr (.inr q) => va_at D cl (a, ab_E ty (.inr (.inr q))) H
  | .inl q => va_at D cl (a, ab_E ty (.inl q)) H
def ab_kd (ts : List Nat) (base a : Nat) (c : AC) : Prop := match c with
  | .inr (.inl (t, _, _)) => t = 9 ∨ t ∈ ts ∧ base ≤ a
  | .inr (.inr (t, _, _)) => (t = 3 ∧ t ∈ ts) ∧ base ≤ a
  | .inl _ => base ≤ a
theorem ab_ac.kept {D : va_G} {cl : List vw_C} {ty : Nat → ClassId} {U : State} {a : Nat} {c : AC} {H H1 : Heap} (h : ab_ac D cl ty U a c H) (hq : H1[a]? = H[a]?) : ab_ac D cl ty U a c H1 := by
  rcases c with q | ⟨t, n, f⟩ | q
  · exact va_at.kept h hq
  · simp only [ab_ac] at h ⊢
    split
    · rename_i ht; rw [if_pos ht] at h; exact va_X.kept h hq
    · rename_i ht; rw [if_neg ht] at h; exact va_at.kept h hq
  · exact va_at.kept h hq
theorem ab_ac.moved {D : va_G} {cl : List vw_C} {ty : Nat → ClassId} {u U : State} (hvm : u.vm.Alike U.vm) {a : Nat} {c : AC} {H : Heap} (h : ab_ac D cl ty u a c H) : ab_ac D cl ty U a c H := by
  rcases c with q | ⟨t, n, f⟩ | q
  · exact h
  · simp only [ab_ac] at h ⊢
    split
    · rename_i ht; rw [if_pos ht] at h; exact va_X.moved hvm h
    · rename_i ht; rw [if_neg ht] at h; exact h
  · exact h
theorem ab_ac.lt {D : va_G} {cl : List vw_C} {ty : Nat → ClassId} {U : State} {a : Nat} {c : AC} {H : Heap} (h : ab_ac D cl ty U a c H) : a < H.size := by
  rcases c with q | ⟨t, n, f⟩ | q
  · exact va_at.lt (show va_at D cl (a, ab_E ty (.inl q)) H from h)
  · simp only [ab_ac] at h
    split at h
    · obtain ⟨scr, h1, -⟩ := h; exact (Array.getElem?_eq_some_iff.mp h1).1
    · exact va_at.lt h
  · exact va_at.lt (show va_at D cl (a, ab_E ty (.inr (.inr q))) H from h)
def ab_R (D : va_G) (cl : List vw_C) (ty : Nat → ClassId) (ts : List Nat) (base : Nat) (U : State) (h : AH) (H : Heap) : Prop :=
  base ≤ H.size ∧ ∀ a c, h a = some c → ab_ac D cl ty U a c H ∧ ab_kd ts base a c
section ABR
variable {D : va_G} {cl : List vw_C} {ty : Nat → ClassId} {ts : List Nat} {base : Nat}
theorem ab_R.moved {u U : State} (hvm : u.vm.Alike U.vm) {h : AH} {H : Heap} (hR : ab_R D cl ty ts base u h H) : ab_R D cl ty ts base U h H :=
  ⟨hR.1, fun a c hc => ⟨(hR.2 a c hc).1.moved hvm, (hR.2 a c hc).2⟩⟩
theorem ab_R.put {U : State} {h : AH} {H H1 : Heap} {a : Nat} {c' : AC} (hR : ab_R D cl ty ts base U h H) (z : H1.size = H.size) (oq : ∀ q : Nat, q ≠ a → H1[q]? = H[q]?) (h1 : ab_ac D cl ty U a c' H1) (h2 : ab_kd ts base a c') : ab_R D cl ty ts base U (ab_up h a c') H1 := by
  refine ⟨by rw [z]; exact hR.1, fun b c hc => ?_⟩
  unfold ab_up at hc
  split at hc
  · rename_i hb; subst hb; cases hc; exact ⟨h1, h2⟩
  · rename_i hb; exact ⟨(hR.2 b c hc).1.kept (oq b hb), (hR.2 b c hc).2⟩
theorem ab_R.push {U : State} {h : AH} {H H1 : Heap} {c' : AC} (hR : ab_R D cl ty ts base U h H) (z : H1.size = H.size + 1) (oq : ∀ q : Nat, q < H.size → H1[q]? = H[q]?) (h1 : ab_ac D cl ty U H.size c' H1) (h2 : ab_kd ts base H.size c') : ab_R D cl ty ts base U (ab_up h H.size c') H1 := by
  refine ⟨by rw [z]; exact Nat.le_succ_of_le hR.1, fun b c hc => ?_⟩
  unfold ab_up at hc
  split at hc
  · rename_i hb; subst hb; cases hc; exact ⟨h1, h2⟩
  · exact ⟨(hR.2 b c hc).1.kept (oq b (hR.2 b c hc).1.lt), (hR.2 b c hc).2⟩
theorem ab_R.fresh {U : State} {h : AH} {H : Heap} (hR : ab_R D cl ty ts base U h H) : h H.size = none := by
  cases hc : h H.size with
  | none => rfl
  | some c => exact absurd (hR.2 _ _ hc).1.lt (Nat.lt_irrefl _)
end ABR
def ab_L (lsA : Array Slot) (nL : Nat) (ls : ALs) : Prop := lsA.size = nL ∧ lv_wf lsA ∧ ls.length ≤ nL ∧ ∀ i v, ab_g ls i = some v → lsA[i]? = some (.val (ab_v v))
def ab_as (ls : ALs) : List (Nat × Value) := (List.range ls.length).filterMap (fun j => (ab_g ls j).map (fun w => (j, ab_v w)))
theorem ab_g_lt {ls : ALs} : ∀ {i : Nat} {v : AV}, ab_g ls i = some v → i < ls.length := by
  induction ls with
  | nil => intro i v h; cases h
  | cons x l ih =>
    intro i v h
    cases i with
    | zero => exact Nat.succ_pos _
    | succ n => exact Nat.succ_lt_succ (ih h)
theorem ab_as_mem {ls : ALs} {j : Nat} {w : AV} (h : ab_g ls j = some w) : (j, ab_v w) ∈ ab_as ls :=
  List.mem_filterMap.mpr ⟨j, List.mem_range.mpr (ab_g_lt h), by rw [h]; rfl⟩
theorem ab_as_of {ls : ALs} {q : Nat × Value} (h : q ∈ ab_as ls) : ∃ w, ab_g ls q.1 = some w ∧ q.2 = ab_v w := by
  obtain ⟨j, -, h2⟩ := List.mem_filterMap.mp h
  cases hg : ab_g ls j with
  | none => rw [hg] at h2; cases h2
  | some w => rw [hg] at h2; cases h2; exact ⟨w, hg, rfl⟩
theorem ab_L.has {lsA : Array Slot} {nL : Nat} {ls : ALs} (h : ab_L lsA nL ls) : lv_has lsA nL (ab_as ls) :=
  ⟨h.1, h.2.1, fun q hq => by obtain ⟨w, h1, h2⟩ := ab_as_of hq; rw [h2]; exact h.2.2.2 _ _ h1⟩
theorem ab_st_len {ls ls' : ALs} : ∀ {i : Nat} {v : AV}, ab_st ls i v = some ls' → ls'.length = ls.length ∧ i < ls.length := by
  induction ls generalizing ls' with
  | nil => intro i v h; cases h
  | cons x l ih =>
    intro i v h
    cases i with
    | zero => cases h; exact ⟨rfl, Nat.succ_pos _⟩
    | succ n =>
      simp only [ab_st] at h
      cases hs : ab_st l n v with
      | none => rw [hs] at h; cases h
      | some l' =>
        rw [hs] at h
        cases h
        obtain ⟨h1, h2⟩ := ih hs
        exact ⟨by simp [h1], Nat.succ_lt_succ h2⟩
theorem ab_st_g {ls ls' : ALs} : ∀ {i : Nat} {v : AV}, ab_st ls i v = some ls' → ∀ j w, ab_g ls' j = some w → (j = i ∧ w = v) ∨ (j ≠ i ∧ ab_g ls j = some w ∧ ¬ (j + 1 = i ∧ ab_2 w = true)) := by
  induction ls generalizing ls' with
  | nil => intro i v h; cases h
  | cons x l ih =>
    intro i v h
    cases i with
    | zero =>
      cases h
      intro j w hj
      cases j with
      | zero => cases hj; exact Or.inl ⟨rfl, rfl⟩
      | succ j => exact Or.inr ⟨by omega, hj, by omega⟩
    | succ n =>
      simp only [ab_st] at h
      cases hs : ab_st l n v with
      | none => rw [hs] at h; cases h
      | some l' =>
        rw [hs] at h
        cases h
        intro j w hj
        cases j with
        | zero =>
          simp only [ab_g] at hj ⊢
          split at hj
          · rename_i hn
            unfold ab_k2 at hj
            split at hj
            · cases hj
            · rename_i hx
              refine Or.inr ⟨by omega, hj, fun hc => ?_⟩
              rcases w with w | w | w
              · cases hc.2
              · cases hc.2
              · exact hx w hj
          · rename_i hn
            exact Or.inr ⟨by omega, hj, by omega⟩
        | succ j =>
          rcases ih hs j w hj with ⟨h1, h2⟩ | ⟨h1, h2, h3⟩
          · exact Or.inl ⟨by omega, h2⟩
          · exact Or.inr ⟨by omega, h2, fun hc => h3 ⟨by omega, hc.2⟩⟩
/-- behind a store of one slot -/
theorem ab_L.set {lsA lsB : Array Slot} {nL : Nat} {ls ls' : ALs} {i : Nat} {v : AV} (h : ab_L lsA nL ls) (hs : ab_st ls i v = some ls') (hB : lv_has lsB nL ((i, ab_v v) :: (ab_as ls).filter (fun q => !(q.1 == i) && !(q.1 + 1 == i && q.2.category == 2)))) : ab_L lsB nL ls' := by
  refine ⟨hB.1, hB.2.1, by rw [(ab_st_len hs).1]; exact h.2.2.1, fun j w hj => ?_⟩
  rcases ab_st_g hs j w hj with ⟨h1, h2⟩ | ⟨h1, h2, h3⟩
  · rw [h1, h2]; exact hB.2.2 (i, ab_v v) List.mem_cons_self
  · refine hB.2.2 (j, ab_v w) (List.mem_cons_of_mem _ (List.mem_filter.mpr ⟨ab_as_mem h2, ?_⟩))
    simp only [Bool.and_eq_true, Bool.not_eq_true', beq_eq_false_iff_ne, ne_eq, Bool.and_eq_false_iff]
    refine ⟨h1, ?_⟩
    by_cases hji : j + 1 = i
    · right
      rw [ab_cat]
      cases h2w : ab_2 w
      · decide
      · exact absurd ⟨hji, h2w⟩ h3
    · left; exact hji
