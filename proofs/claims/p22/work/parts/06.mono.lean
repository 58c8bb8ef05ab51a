/-! ===== monotone: a text's transformer grows with what is to hold behind it ===== -/
def ab_mo (Tr : ATr) : Prop := ∀ (as : List AV) (h : AH) (K K' : Option AV → AH → Prop), (∀ r h', K r h' → K' r h') → Tr as h K → Tr as h K'
theorem ab_I_mo {st : List AV} {k k' : Int → List AV → Prop} (hm : ∀ a r, k a r → k' a r) (h : ab_I st k) : ab_I st k' := by
  obtain ⟨a, r, rfl, h⟩ := ab_I_el h; exact hm _ _ h
theorem ab_II_mo {st : List AV} {k k' : Int → Int → List AV → Prop} (hm : ∀ a b r, k a b r → k' a b r) (h : ab_II st k) : ab_II st k' := by
  obtain ⟨a, b, r, rfl, h⟩ := ab_II_el h; exact hm _ _ _ h
theorem ab_A_mo {st : List AV} {k k' : Option Nat → List AV → Prop} (hm : ∀ a r, k a r → k' a r) (h : ab_A st k) : ab_A st k' := by
  obtain ⟨a, r, rfl, h⟩ := ab_A_el h; exact hm _ _ h
theorem ab_Rf_mo {st : List AV} {k k' : Nat → List AV → Prop} (hm : ∀ a r, k a r → k' a r) (h : ab_Rf st k) : ab_Rf st k' := by
  obtain ⟨a, r, rfl, h⟩ := ab_Rf_el h; exact hm _ _ h
theorem ab_VR_mo {st : List AV} {k k' : AV → Nat → List AV → Prop} (hm : ∀ v a r, k v a r → k' v a r) (h : ab_VR st k) : ab_VR st k' := by
  obtain ⟨v, a, r, rfl, h⟩ := ab_VR_el h; exact hm _ _ _ h
theorem ab_IR_mo {st : List AV} {k k' : Int → Nat → List AV → Prop} (hm : ∀ v a r, k v a r → k' v a r) (h : ab_IR st k) : ab_IR st k' := by
  obtain ⟨v, a, r, rfl, h⟩ := ab_IR_el h; exact hm _ _ _ h
theorem ab_VIR_mo {st : List AV} {k k' : AV → Int → Nat → List AV → Prop} (hm : ∀ v i a r, k v i a r → k' v i a r) (h : ab_VIR st k) : ab_VIR st k' := by
  obtain ⟨v, i, a, r, rfl, h⟩ := ab_VIR_el h; exact hm _ _ _ _ h
theorem ab_1_mo {st : List AV} {k k' : AV → List AV → Prop} (hm : ∀ v r, k v r → k' v r) (h : ab_1 st k) : ab_1 st k' := by
  unfold ab_1 at h ⊢; split at h
  · exact hm _ _ h
  · exact hm _ _ h
  · exact h.elim
theorem ab_DD_mo {st : List AV} {k k' : UInt64 → UInt64 → List AV → Prop} (hm : ∀ a b r, k a b r → k' a b r) (h : ab_DD st k) : ab_DD st k' := by
  obtain ⟨a, b, r, rfl, h⟩ := ab_DD_el h; exact hm _ _ _ h
theorem ab_ob_mo {o : Option AC} {k k' : Nat → List AV → Prop} (hm : ∀ ci fs, k ci fs → k' ci fs) (h : ab_ob o k) : ab_ob o k' := by
  obtain ⟨a, r, rfl, h⟩ := ab_ob_el h; exact hm _ _ h
theorem ab_pr_mo {o : Option AC} {k k' : Nat → Nat → (Int → Int) → Prop} (hm : ∀ t n f, k t n f → k' t n f) (h : ab_pr o k) : ab_pr o k' := by
  obtain ⟨t, n, f, rfl, h⟩ := ab_pr_el h; exact hm _ _ _ h
theorem ab_qr_mo {o : Option AC} {k k' : Nat → Nat → (Int → Option Nat) → Prop} (hm : ∀ t n f, k t n f → k' t n f) (h : ab_qr o k) : ab_qr o k' := by
  obtain ⟨t, n, f, rfl, h⟩ := ab_qr_el h; exact hm _ _ _ h
theorem ab_ln_mo {o : Option AC} {k k' : Nat → Prop} (hm : ∀ n, k n → k' n) (h : ab_ln o k) : ab_ln o k' := by
  unfold ab_ln at h ⊢; split at h
  · exact hm _ h
  · exact hm _ h
  · exact h.elim
theorem ab_so_mo {α : Type} {o : Option α} {k k' : α → Prop} (hm : ∀ x, k x → k' x) (h : ab_so o k) : ab_so o k' := by
  obtain ⟨x, rfl, h⟩ := ab_so_el h; exact hm _ h
theorem ab_so_mo' {α : Type} {o : Option α} {k k' : α → Prop} (hm : ∀ x, o = some x → k x → k' x) (h : ab_so o k) : ab_so o k' := by
  obtain ⟨x, rfl, h⟩ := ab_so_el h; exact hm _ rfl h
theorem ab_vI_mo {o : Option AV} {k k' : Int → Prop} (hm : ∀ x, k x → k' x) (h : ab_vI o k) : ab_vI o k' := by
  obtain ⟨x, rfl, h⟩ := ab_vI_el h; exact hm _ h
theorem ab_vA_mo {o : Option AV} {k k' : Option Nat → Prop} (hm : ∀ x, k x → k' x) (h : ab_vA o k) : ab_vA o k' := by
  obtain ⟨x, rfl, h⟩ := ab_vA_el h; exact hm _ h
theorem ab_vL_mo {o : Option AV} {k k' : Int → Prop} (hm : ∀ x, k x → k' x) (h : ab_vL o k) : ab_vL o k' := by
  obtain ⟨x, rfl, h⟩ := ab_vL_el h; exact hm _ h
theorem ab_vD_mo {o : Option AV} {k k' : UInt64 → Prop} (hm : ∀ x, k x → k' x) (h : ab_vD o k) : ab_vD o k' := by
  obtain ⟨x, rfl, h⟩ := ab_vD_el h; exact hm _ h
theorem ab_LL_mo {st : List AV} {k k' : Int → Int → List AV → Prop} (hm : ∀ a b r, k a b r → k' a b r) (h : ab_LL st k) : ab_LL st k' := by
  obtain ⟨a, b, r, rfl, h⟩ := ab_LL_el h; exact hm _ _ _ h
theorem ab_v2_mo {o : Option AV} {k k' : Int ⊕ UInt64 → Prop} (hm : ∀ x, k x → k' x) (h : ab_v2 o k) : ab_v2 o k' := by
  obtain ⟨x, rfl, h⟩ := ab_v2_el h; exact hm _ h
theorem ab_tg_mo {pc : Nat} {off : Int} {k k' : Nat → Prop} (hm : ∀ t, k t → k' t) (h : ab_tg pc off k) : ab_tg pc off k' := ⟨h.1, hm _ h.2⟩
theorem ab_tsw_mo {pc : Nat} {v : Int} {k k' : Nat → Prop} (hm : ∀ t, k t → k' t) : ∀ {l : List Int} {lo : Int}, ab_tsw pc v k lo l → ab_tsw pc v k' lo l := by
  intro l
  induction l with
  | nil => intro lo h; exact h
  | cons o l ih => intro lo h; exact ⟨fun q => ab_tg_mo hm (h.1 q), ih h.2⟩
theorem ab_lsw_mo {pc : Nat} {v d : Int} {k k' : Nat → Prop} (hm : ∀ t, k t → k' t) : ∀ {l : List (Int × Int)}, ab_lsw pc v d k l → ab_lsw pc v d k' l := by
  intro l
  induction l with
  | nil => intro h; exact ab_tg_mo hm h
  | cons o l ih => intro h; obtain ⟨a, o⟩ := o; exact ⟨fun q => ab_tg_mo hm (h.1 q), fun q => ih (h.2 q)⟩
theorem ab_s1_mo {tb : ATb} {ts : List Nat} {base : Nat} {ca : Nat → Option ACS} {rt MC MS : Nat} {K : Option AV → AH → Prop} {V V' : AVt} (hca : ∀ i q, ca i = some q → ab_mo q.2.2.2.2.2) (hV : ∀ pc ls st h k z, V pc ls st h k z → V' pc ls st h k z) {ins : ClassFile.Instr} {len pc : Nat} {ls : ALs} {st : List AV} {h : AH} {k z : Nat}
    (hs : ab_s1 tb ts base ca rt MC MS K V ins len pc ls st h k z) : ab_s1 tb ts base ca rt MC MS K V' ins len pc ls st h k z := by
  cases ins
  case iconst n => exact ⟨hs.1, hV _ _ _ _ _ _ hs.2⟩
  case bipush n => exact ⟨hs.1, hs.2.1, hV _ _ _ _ _ _ hs.2.2⟩
  case sipush n => exact ⟨hs.1, hs.2.1, hV _ _ _ _ _ _ hs.2.2⟩
  case aconst_null => exact ⟨hs.1, hV _ _ _ _ _ _ hs.2⟩
  case ldc i => exact ⟨hs.1, ab_vI_mo (fun _ => hV _ _ _ _ _ _) hs.2⟩
  case ldc2_w i => exact ⟨hs.1, ab_v2_mo (fun _ => hV _ _ _ _ _ _) hs.2⟩
  case iload i => exact ⟨hs.1, ab_vI_mo (fun _ => hV _ _ _ _ _ _) hs.2⟩
  case iload_n i => exact ⟨hs.1, ab_vI_mo (fun _ => hV _ _ _ _ _ _) hs.2⟩
  case aload i => exact ⟨hs.1, ab_vA_mo (fun _ => hV _ _ _ _ _ _) hs.2⟩
  case aload_n i => exact ⟨hs.1, ab_vA_mo (fun _ => hV _ _ _ _ _ _) hs.2⟩
  case istore i => exact ⟨hs.1, ab_I_mo (fun _ _ => ab_so_mo fun _ => hV _ _ _ _ _ _) hs.2⟩
  case istore_n i => exact ⟨hs.1, ab_I_mo (fun _ _ => ab_so_mo fun _ => hV _ _ _ _ _ _) hs.2⟩
  case astore i => exact ⟨hs.1, ab_A_mo (fun _ _ => ab_so_mo fun _ => hV _ _ _ _ _ _) hs.2⟩
  case astore_n i => exact ⟨hs.1, ab_A_mo (fun _ _ => ab_so_mo fun _ => hV _ _ _ _ _ _) hs.2⟩
  case iinc i n => exact ⟨hs.1, ab_vI_mo (fun _ => ab_so_mo fun _ => hV _ _ _ _ _ _) hs.2⟩
  case iadd => exact ⟨hs.1, ab_II_mo (fun _ _ _ => hV _ _ _ _ _ _) hs.2⟩
  case isub => exact ⟨hs.1, ab_II_mo (fun _ _ _ => hV _ _ _ _ _ _) hs.2⟩
  case imul => exact ⟨hs.1, ab_II_mo (fun _ _ _ => hV _ _ _ _ _ _) hs.2⟩
  case idiv => exact ⟨hs.1, ab_II_mo (fun _ _ _ q => ⟨q.1, hV _ _ _ _ _ _ q.2⟩) hs.2⟩
  case irem => exact ⟨hs.1, ab_II_mo (fun _ _ _ q => ⟨q.1, hV _ _ _ _ _ _ q.2⟩) hs.2⟩
  case iand => exact ⟨hs.1, ab_II_mo (fun _ _ _ => hV _ _ _ _ _ _) hs.2⟩
  case ior => exact ⟨hs.1, ab_II_mo (fun _ _ _ => hV _ _ _ _ _ _) hs.2⟩
  case ixor => exact ⟨hs.1, ab_II_mo (fun _ _ _ => hV _ _ _ _ _ _) hs.2⟩
  case ishr => exact ⟨hs.1, ab_II_mo (fun _ _ _ => hV _ _ _ _ _ _) hs.2⟩
  case if_icmp c off => exact ⟨hs.1, hs.2.1, ab_II_mo (fun _ _ _ q => ⟨q.1, fun w => hV _ _ _ _ _ _ (q.2.1 w), fun w => hV _ _ _ _ _ _ (q.2.2 w)⟩) hs.2.2⟩
  case ifCond c off => exact ⟨hs.1, hs.2.1, ab_I_mo (fun _ _ q => ⟨q.1, fun w => hV _ _ _ _ _ _ (q.2.1 w), fun w => hV _ _ _ _ _ _ (q.2.2 w)⟩) hs.2.2⟩
  case ifnull off => exact ⟨hs.1, ab_A_mo (fun _ _ q => ⟨fun w => ab_tg_mo (fun _ => hV _ _ _ _ _ _) (q.1 w), fun w => hV _ _ _ _ _ _ (q.2 w)⟩) hs.2⟩
  case ifnonnull off => exact ⟨hs.1, ab_A_mo (fun _ _ q => ⟨fun w => ab_tg_mo (fun _ => hV _ _ _ _ _ _) (q.1 w), fun w => hV _ _ _ _ _ _ (q.2 w)⟩) hs.2⟩
  case goto off => exact ⟨hs.1, ab_tg_mo (fun _ => hV _ _ _ _ _ _) hs.2⟩
  case tableswitch d lo hi offs => exact ⟨hs.1, ab_I_mo (fun _ _ q => ⟨q.1, fun w => ab_tg_mo (fun _ => hV _ _ _ _ _ _) (q.2.1 w), ab_tsw_mo (fun _ => hV _ _ _ _ _ _) q.2.2⟩) hs.2⟩
  case lookupswitch d ps => exact ⟨hs.1, ab_I_mo (fun _ _ q => ⟨q.1, ab_lsw_mo (fun _ => hV _ _ _ _ _ _) q.2⟩) hs.2⟩
  case getfield i => exact ⟨hs.1, ab_so_mo (fun _ => ab_Rf_mo fun _ _ => ab_ob_mo fun _ _ q => ⟨q.1, ab_so_mo (fun _ => hV _ _ _ _ _ _) q.2⟩) hs.2⟩
  case putfield i => exact ⟨hs.1, ab_so_mo (fun _ => ab_VR_mo fun _ _ _ => ab_ob_mo fun _ _ q => ⟨q.1, hV _ _ _ _ _ _ q.2⟩) hs.2⟩
  case iaload => exact ⟨hs.1, ab_IR_mo (fun _ _ _ => ab_pr_mo fun _ _ _ q => ⟨q.1, hV _ _ _ _ _ _ q.2⟩) hs.2⟩
  case baload => exact ⟨hs.1, ab_IR_mo (fun _ _ _ => ab_pr_mo fun _ _ _ q => ⟨q.1, hV _ _ _ _ _ _ q.2⟩) hs.2⟩
  case aaload => exact ⟨hs.1, ab_IR_mo (fun _ _ _ => ab_qr_mo fun _ _ _ q => ⟨q.1, hV _ _ _ _ _ _ q.2⟩) hs.2⟩
  case iastore => exact ⟨hs.1, ab_VIR_mo (fun _ _ _ _ => ab_pr_mo fun _ _ _ q => ⟨q.1, ab_vI_mo (fun _ => hV _ _ _ _ _ _) q.2⟩) hs.2⟩
  case bastore => exact ⟨hs.1, ab_VIR_mo (fun _ _ _ _ => ab_pr_mo fun _ _ _ q => ⟨q.1, ab_vI_mo (fun _ w => ⟨w.1, hV _ _ _ _ _ _ w.2⟩) q.2⟩) hs.2⟩
  case arraylength => exact ⟨hs.1, ab_Rf_mo (fun _ _ => ab_ln_mo fun _ => hV _ _ _ _ _ _) hs.2⟩
  case newarray t => exact ⟨hs.1, ab_I_mo (fun _ _ q => ⟨q.1, fun a h1 h2 => hV _ _ _ _ _ _ (q.2 a h1 h2)⟩) hs.2⟩
  case new i => exact ⟨hs.1, ab_so_mo (fun _ q => ⟨q.1, fun a h1 h2 => hV _ _ _ _ _ _ (q.2 a h1 h2)⟩) hs.2⟩
  case dup => exact ⟨hs.1, ab_1_mo (fun _ _ => hV _ _ _ _ _ _) hs.2⟩
  case dup2 => exact ⟨hs.1, ab_1_mo (fun _ _ => ab_1_mo fun _ _ => hV _ _ _ _ _ _) hs.2⟩
  case pop => exact ⟨hs.1, ab_1_mo (fun _ _ => hV _ _ _ _ _ _) hs.2⟩
  case invokevirtual i => exact ⟨hs.1, ab_so_mo' (fun q hq w => ⟨w.1, ab_so_mo (fun ar u => ⟨u.1, hca i q hq _ _ _ _ (fun _ _ => hV _ _ _ _ _ _) u.2⟩) w.2⟩) hs.2⟩
  case invokespecial i => exact ⟨hs.1, ab_so_mo' (fun q hq w => ⟨w.1, ab_so_mo (fun ar u => ⟨u.1, hca i q hq _ _ _ _ (fun _ _ => hV _ _ _ _ _ _) u.2⟩) w.2⟩) hs.2⟩
  case invokestatic i => exact ⟨hs.1, ab_so_mo' (fun q hq w => ⟨w.1, ab_so_mo (fun ar u => ⟨u.1, hca i q hq _ _ _ _ (fun _ _ => hV _ _ _ _ _ _) u.2⟩) w.2⟩) hs.2⟩
  case ireturn => exact hs
  case areturn => exact hs
  case dreturn => exact hs
  case return_ => exact hs
  case i2d => exact ⟨hs.1, ab_I_mo (fun _ _ => hV _ _ _ _ _ _) hs.2⟩
  case ddiv => exact ⟨hs.1, ab_DD_mo (fun _ _ _ q => ⟨q.1, hV _ _ _ _ _ _ q.2⟩) hs.2⟩
  case dcmp op => exact ⟨hs.1, ab_DD_mo (fun _ _ _ => hV _ _ _ _ _ _) hs.2⟩
  case lload i => exact ⟨hs.1, ab_vL_mo (fun _ => hV _ _ _ _ _ _) hs.2⟩
  case lload_n i => exact ⟨hs.1, ab_vL_mo (fun _ => hV _ _ _ _ _ _) hs.2⟩
  case lstore i => exact ⟨hs.1, ab_vL_mo (fun _ => ab_so_mo fun _ => ab_so_mo fun _ => hV _ _ _ _ _ _) hs.2⟩
  case lstore_n i => exact ⟨hs.1, ab_vL_mo (fun _ => ab_so_mo fun _ => ab_so_mo fun _ => hV _ _ _ _ _ _) hs.2⟩
  case dload i => exact ⟨hs.1, ab_vD_mo (fun _ => hV _ _ _ _ _ _) hs.2⟩
  case dload_n i => exact ⟨hs.1, ab_vD_mo (fun _ => hV _ _ _ _ _ _) hs.2⟩
  case dstore i => exact ⟨hs.1, ab_vD_mo (fun _ => ab_so_mo fun _ => ab_so_mo fun _ => hV _ _ _ _ _ _) hs.2⟩
  case dstore_n i => exact ⟨hs.1, ab_vD_mo (fun _ => ab_so_mo fun _ => ab_so_mo fun _ => hV _ _ _ _ _ _) hs.2⟩
  case ladd => exact ⟨hs.1, ab_LL_mo (fun _ _ _ => hV _ _ _ _ _ _) hs.2⟩
  case lmul => exact ⟨hs.1, ab_LL_mo (fun _ _ _ => hV _ _ _ _ _ _) hs.2⟩
  case i2l => exact ⟨hs.1, ab_I_mo (fun _ _ q => ⟨q.1, hV _ _ _ _ _ _ q.2⟩) hs.2⟩
  case lcmp => exact ⟨hs.1, ab_LL_mo (fun _ _ _ q => ⟨fun w => hV _ _ _ _ _ _ (q.1 w), fun w => ⟨(q.2 w).1, hV _ _ _ _ _ _ (q.2 w).2⟩⟩) hs.2⟩
  case lreturn => exact hs
  case laload => exact ⟨hs.1, ab_IR_mo (fun _ _ _ => ab_pr_mo fun _ _ _ q => ⟨q.1, hV _ _ _ _ _ _ q.2⟩) hs.2⟩
  case lastore => exact ⟨hs.1, ab_VIR_mo (fun _ _ _ _ => ab_pr_mo fun _ _ _ q => ⟨q.1, ab_vL_mo (fun _ w => hV _ _ _ _ _ _ w) q.2⟩) hs.2⟩
  case anewarray i => exact ⟨hs.1, ab_so_mo (fun _ w => ⟨w.1, ab_I_mo (fun _ _ q => ⟨q.1, fun a h1 h2 => hV _ _ _ _ _ _ (q.2 a h1 h2)⟩) w.2⟩) hs.2⟩
  case multianewarray i d => exact ⟨hs.1, hs.2.1, ab_so_mo (fun _ w => ⟨w.1, ab_II_mo (fun _ _ _ q => ⟨q.1, fun a h1 h2 => hV _ _ _ _ _ _ (q.2 a h1 h2)⟩) w.2⟩) hs.2.2⟩
  case aastore => exact ⟨hs.1, ab_VIR_mo (fun _ _ _ _ => ab_qr_mo fun _ _ _ q => ⟨q.1, ab_Rf_mo (fun _ _ => ab_pr_mo fun _ _ _ w => ⟨w.1, hV _ _ _ _ _ _ w.2⟩) q.2⟩) hs.2⟩
  case checkcast i => exact ⟨hs.1, ab_so_mo (fun _ u => ⟨u.1, ab_Rf_mo (fun _ _ => ab_pr_mo fun _ _ _ w => ⟨w.1, hV _ _ _ _ _ _ w.2⟩) u.2⟩) hs.2⟩
  all_goals exact False.elim hs
theorem ab_step_mo {tb : ATb} {ts : List Nat} {base : Nat} {cc : ByteArray} {ca : Nat → Option ACS} {rt MC MS : Nat} {K : Option AV → AH → Prop} {V V' : AVt} (hca : ∀ i q, ca i = some q → ab_mo q.2.2.2.2.2) (hV : ∀ pc ls st h k z, V pc ls st h k z → V' pc ls st h k z) {pc : Nat} {ls : ALs} {st : List AV} {h : AH} {k z : Nat}
    (hs : ab_step tb ts base cc ca rt MC MS K V pc ls st h k z) : ab_step tb ts base cc ca rt MC MS K V' pc ls st h k z := by
  rw [ab_stp] at hs ⊢
  split at hs
  · exact ab_s1_mo hca hV hs
  · exact hs
theorem ab_wp_V {tb : ATb} {ts : List Nat} {base : Nat} {cc : ByteArray} {ca : Nat → Option ACS} {rt MC MS : Nat} {K : Option AV → AH → Prop} {V : AVt} (hca : ∀ i q, ca i = some q → ab_mo q.2.2.2.2.2) (hV : ∀ pc ls st h k z, ab_step tb ts base cc ca rt MC MS K V pc ls st h k z → V pc ls st h k z) (stop : Nat → Bool) :
    ∀ (n pc : Nat) (ls : ALs) (st : List AV) (h : AH) (k z : Nat), ab_wp (ab_step tb ts base cc ca rt MC MS K) stop V n pc ls st h k z → V pc ls st h k z := by
  intro n
  induction n with
  | zero => intro pc ls st h k z hw; exact hw
  | succ n ih =>
    intro pc ls st h k z hw
    rw [ab_wps] at hw
    split at hw
    · exact hw
    · exact hV _ _ _ _ _ _ (ab_step_mo hca ih hw)
/-- a text meets its transformer, whatever the machine is -/
def ab_Sem (tb : ATb) (ts : List Nat) (base : Nat) (cc : ByteArray) (ca : Nat → Option ACS) (rt nL MC MS : Nat) (en : List AV → ALs) (Tr : ATr) : Prop :=
  ∀ (as : List AV) (h : AH) (K : Option AV → AH → Prop), Tr as h K → ∀ V : AVt, (∀ (stop : Nat → Bool) (n pc : Nat) (ls : ALs) (st : List AV) (h : AH) (k z : Nat), ab_step tb ts base cc ca rt MC MS K (ab_wp (ab_step tb ts base cc ca rt MC MS K) stop V n) pc ls st h k z → V pc ls st h k z) → V 0 (en as) [] h 0 0
def ab_en : List AV → Nat → ALs
  | [], n => List.replicate n none
  | v :: l, n => if ab_2 v then some v :: none :: ab_en l (n - 2) else some v :: ab_en l (n - 1)
theorem ab_en_len : ∀ (as : List AV) (n : Nat), (lg_sl (as.map ab_v)).length ≤ n → (ab_en as n).length = n := by
  intro as
  induction as with
  | nil => intro n _; simp [ab_en]
  | cons v l ih =>
    intro n h
    have e : lg_sl ((v :: l).map ab_v) = (if (ab_v v).category = 2 then [Slot.val (ab_v v), .second] else [.val (ab_v v)]) ++ lg_sl (l.map ab_v) := by simp [lg_sl]
    rw [e, ab_cat] at h
    simp only [ab_en]
    cases hv : ab_2 v
    · rw [hv] at h
      simp at h
      simp only [Bool.false_eq_true, if_false, List.length_cons]
      rw [ih (n - 1) (by omega)]; omega
    · rw [hv] at h
      simp at h
      simp only [if_true, List.length_cons]
      rw [ih (n - 2) (by omega)]; omega
theorem ab_g_rep (n : Nat) : ∀ (i : Nat) (v : AV), ab_g (List.replicate n none) i = some v → False := by
  induction n with
  | zero => intro i v h; cases h
  | succ n ih =>
    intro i v h
    cases i with
    | zero => cases h
    | succ i => exact ih i v h
theorem ab_en_g : ∀ (as : List AV) (n b i : Nat) (v : AV), ab_g (ab_en as n) i = some v → (b + i, ab_v v) ∈ lv_args b (as.map ab_v) := by
  intro as
  induction as with
  | nil => intro n b i v h; exact (ab_g_rep n i v h).elim
  | cons w l ih =>
    intro n b i v h
    simp only [List.map_cons, lv_args, ab_cat]
    simp only [ab_en] at h
    cases hw : ab_2 w
    · rw [hw] at h
      simp only [Bool.false_eq_true, if_false] at h
      cases i with
      | zero => cases h; exact List.mem_cons_self
      | succ i =>
        refine List.mem_cons_of_mem _ ?_
        have := ih (n - 1) (b + 1) i v h
        simpa [Nat.add_assoc, Nat.add_comm 1 i] using this
    · rw [hw] at h
      simp only [if_true] at h
      cases i with
      | zero => cases h; exact List.mem_cons_self
      | succ i =>
        cases i with
        | zero => cases h
        | succ i =>
          refine List.mem_cons_of_mem _ ?_
          have := ih (n - 2) (b + 2) i v h
          simpa [Nat.add_assoc, Nat.add_comm 2 i] using this
def ab_Pc (D : va_G) (cl : List vw_C) (ty : Nat → ClassId) (ts : List Nat) (base : Nat) (wd : List Jvm.Cond) (as : List AV) (h : AH) : Array Value → State → Prop := fun v U => v = (as.map ab_v).toArray ∧ ab_R D cl ty ts base U h U.heap ∧ ab_F D cl ty ts wd U
/-- a method's contract -/
def ab_Con (l : Launch) (D : va_G) (cl : List vw_C) (ty : Nat → ClassId) (ts : List Nat) (base : Nat) (wd : List Jvm.Cond) (y : MethodName) (cc : ByteArray) (nL : Nat) (ret : Option FieldType) (fr lo MC MS : Nat) (Tr : ATr) : Prop :=
  ∀ (as : List AV) (h : AH) (K : Option AV → AH → Prop), Tr as h K → Met l y [Cond.code y cc nL ret] ({ frames := fr, cells := MC, slots := MS, locals := lo }) (ab_Pc D cl ty ts base wd as h) (ab_Q D cl ty ts base K) MC MS (fun q => base ≤ q)
theorem ab_rv_el {as : List AV} {h : AH} {ci : Nat} (hr : ab_rv as h ci) : ∃ b As fs, as = .inr (.inl (some b)) :: As ∧ h b = some (.inl (ci, fs)) := by
  unfold ab_rv at hr
  split at hr
  · obtain ⟨cj, fs, hob, rfl⟩ := ab_ob_el hr
    exact ⟨_, _, fs, rfl, hob⟩
  · exact hr.elim
section ABC
variable {p : Program} {l : Launch} {e : Env} {R : Room} {s : State} {m : MethodId} {args : Array Value} {below : List Frame} {meth : Method} {c : Code}
variable {D : va_G} {cl : List vw_C} {ty : Nat → ClassId} {ts : List Nat} {base : Nat} {wd : List Jvm.Cond}
variable {nL MC MS : Nat} {K : Option AV → AH → Prop} {QQ : State → Prop} {cc : ByteArray}
theorem ab_blind {as : List AV} {h : AH} (hwd : ∀ w ∈ wd, ab_ok w = true) : FrameBlind (ab_Pc D cl ty ts base wd as h) := by
  intro a U g mk q
  exact ⟨q.1, q.2.1.moved (u := U) (U := U.calling g mk a) (Vm.Alike.refl U.vm), ab_F.warm hwd (State.WarmedH.refl U) q.2.2⟩
theorem ab_pre {as : List AV} {h : AH} {H : Heap} (hwd : ∀ w ∈ wd, ab_ok w = true) (hR : ab_R D cl ty ts base s h H) (hF : ab_F D cl ty ts wd s) : ∀ U : State, U.heap = H → s.WarmedH U.vm → ab_Pc D cl ty ts base wd as h (as.map ab_v).toArray U := by
  intro U hU hW
  exact ⟨rfl, by rw [hU]; exact hR.moved hW.alike, hF.warm hwd hW⟩
theorem ab_after {pc : Nat} {ls : ALs} {r : List AV} {k z mc ms : Nat} {Kc : Option AV → AH → Prop} {H : Heap} {locs : List Loc} {lsA : Array Slot} {stk : List Value}
    (hrun : va_Run p l e R s m args below meth c H locs k z mc ms (F0 m pc lsA stk) (r.map ab_v) (ab_Q D cl ty ts base Kc args) (fun q => base ≤ q))
    (hS : va_S (fun q => base ≤ q) s.heap H locs) (hL : ab_L lsA nL ls) (hk : k + mc ≤ MC) (hz : z + ms ≤ MS)
    (hcont : ∀ rv h', Kc rv h' → ab_V p l e R s m args below meth c D cl ty ts base nL MC MS QQ (pc + 3) ls (ab_ret rv r) h' (k + mc) (z + ms)) :
    W p l e R s m args below meth c H locs k z QQ (F0 m pc lsA stk) := by
  intro T hT X
  obtain ⟨v, st₀, t, T', L, h0, X', hLf, e1, e2, ⟨rv, h', hv, hKc, hR', hz1, hk1⟩, st⟩ := hrun T hT X
  cases hv
  rw [h0] at hz1 hk1
  have hal : s.vm.Alike t.vm := by rw [← e2]; exact X'.warmed.alike
  have hg : ((rv.map ab_v).toList ++ r.map ab_v) = (ab_ret rv r).map ab_v := by cases rv <;> rfl
  obtain ⟨t2, a1, b1⟩ := hcont rv h' hKc T'.heap (locs ++ L) lsA (by rw [e1]; exact hR'.moved hal.symm)
    ⟨Nat.le_trans hS.1 (by rw [e1]; exact hz1), fun q h1 h2 => by rw [e1, hk1 q (Nat.lt_of_lt_of_le h1 hS.1) h2]; exact hS.2.1 q h1 h2, fun q hq => by
      rcases List.mem_append.mp hq with h | h
      · exact hS.2.2 q h
      · exact hLf q h⟩ hL hk hz T' rfl X'
  refine ⟨t2, st t2 ?_, b1⟩
  show Steps p.tables e below (T'.setTop { F0 m pc lsA stk with pc := pc + 3, stack := (rv.map ab_v).toList ++ r.map ab_v }) t2
  rw [hg]
  exact a1
theorem ab_szs (r : List AV) : 2 * (F0 m 0 #[] []).monitorRoom + ((r.map ab_v).map fun v => v.category).sum = ab_sz r := by
  have : (F0 m 0 #[] []).monitorRoom = 0 := rfl
  rw [this]
  induction r with
  | nil => rfl
  | cons v r ih =>
    simp only [List.map_cons, List.sum_cons, ab_cat, ab_sz] at ih ⊢
    omega
/-- the words of a call's code -/
theorem ab_cb {y : MethodName} {cc' : ByteArray} {nL' : Nat} {ret' : Option FieldType} (hwd : ∀ w ∈ wd, ab_ok w = true) (hF : ab_F D cl ty ts wd s) (w5 : Jvm.Cond.code y cc' nL' ret' ∈ wd) : ∀ w ∈ [Jvm.Cond.code y cc' nL' ret'], ∀ (a' : Array Value) (U : State), s.WarmedH U.vm → w.before a' U = true := by
  intro w hw a' U hW
  rw [List.mem_singleton.mp hw]
  exact ab_warm hW (hwd _ w5) (hF.2.2 _ w5)
theorem ab_hw {w : Jvm.Cond} (hwd : ∀ w ∈ wd, ab_ok w = true) (hF : ab_F D cl ty ts wd s) (h : w ∈ wd) : w.before args s = true := ab_warm (State.WarmedH.refl s) (hwd _ h) (hF.2.2 _ h)
/-- a call of a method of one's own class, or one that the tables let be linked -/
theorem ab_tc_V (hx : p.tables.exec = Jvm.exec) (hb : c.code = cc) (hml : c.maxLocals = nL) {own : String} (hown : s.vm.findClass own = some m.cls) (hwd : ∀ w ∈ wd, ab_ok w = true) (hF : ab_F D cl ty ts wd s) (hRC : R.cells = MC ∧ R.slots = MS)
    {i : Nat} {y : MethodName} {cc' : ByteArray} {nL' fr' lo' MC' MS' ci n : Nat} {ret' : Option FieldType} {Tr : ATr} (hM : ab_Con l D cl ty ts base wd y cc' nL' ret' fr' lo' MC' MS' Tr)
    {T : u_T} {N : Nat} (hcl : cl[ci]? = some (y.cls, T, N)) (w1 : Jvm.Cond.methodLink own i y ∈ wd) (w2 : Jvm.Cond.instanceMethod y ∈ wd) (w3 : Jvm.Cond.selects y.cls y y ∈ wd) (w4 : Jvm.Cond.initialized y.cls ∈ wd) (w5 : Jvm.Cond.code y cc' nL' ret' ∈ wd)
    (hd : y.cls ≠ "java/lang/invoke/MethodHandle" ∧ y.cls ≠ "java/lang/invoke/VarHandle" ∧ (parseMethodDescriptor y.desc).map (fun d => d.parameters.length) = some n) (hR' : fr' + 1 ≤ R.frames ∧ 8 + (nL' + 11) + lo' ≤ R.locals) :
    ab_TC1 p l e R s m args below meth c D cl ty ts base nL MC MS QQ cc i (0, ci, n + 1, MC', MS', Tr) := by
  intro pc ls as r h k z Kc hdc hlen hsz hk hz hrv hTr hcont H locs lsA hR hS hL hk0 hz0
  obtain ⟨b, As, fs, rfl, hob⟩ := ab_rv_el (hrv rfl)
  · have hcell := (hR.2 b _ hob).1
    obtain ⟨q', h1, cell, g1, g2, g3, -⟩ : va_at D cl (b, .inr (ci, fs.map ab_v)) H := hcell
    cases hcl.symm.trans h1
    have hst : (((.inr (.inl (some b)) :: As : List AV).reverse ++ r).map ab_v) = (As.map ab_v).reverse ++ .ref b :: r.map ab_v := by simp [ab_v, va_rf]
    rw [hst]
    have hn : (As.map ab_v).length = n := by simp at hlen ⊢; exact hlen
    refine ab_after (va_runV (cc := cc) (nL := nL) (Ts := []) (own := own) (As := As.map ab_v) (rest := r.map ab_v) (n := n) ⟨hx, hb, hml, hown, fun w hw => absurd hw List.not_mem_nil⟩ (hM _ h Kc hTr)
      (C := y.cls) (bytes := cc') (maxL := nL') (ret := ret') ⟨⟨rfl, rfl, hR'.1, hR'.2, ab_cb hwd hF w5, List.mem_singleton.mpr rfl, ab_hw hwd hF w5, ab_hw hwd hF w4, ⟨hd.1, hd.2.1⟩, fun sig hs => ?_, ab_hw hwd hF w1⟩, ab_hw hwd hF w2, ab_hw hwd hF w3⟩
      ⟨ab_blind hwd, ⟨cell, g1, by rw [g3]; rfl, by rw [g2]; exact (hF.1 ci _ hcl).2.1⟩, ?_⟩ rfl hn hL.1 rfl ?_ hdc ⟨by rw [hRC.1]; exact hk, by rw [hRC.2]; exact hz⟩) hS hL hk hz hcont
    · have h2 := hd.2.2
      rw [hs] at h2
      exact (Option.some.inj h2).symm
    · exact ab_pre (as := .inr (.inl (some b)) :: As) hwd hR hF
    · exact Nat.le_trans (Nat.le_of_eq (ab_szs (m := m) r)) hsz
theorem ab_tc_VN (hx : p.tables.exec = Jvm.exec) (hb : c.code = cc) (hml : c.maxLocals = nL) {own host : String} (hown : s.vm.findClass own = some m.cls) (hwd : ∀ w ∈ wd, ab_ok w = true) (hF : ab_F D cl ty ts wd s) (hRC : R.cells = MC ∧ R.slots = MS)
    {i : Nat} {y : MethodName} {cc' : ByteArray} {nL' fr' lo' MC' MS' ci n : Nat} {ret' : Option FieldType} {Tr : ATr} (hM : ab_Con l D cl ty ts base wd y cc' nL' ret' fr' lo' MC' MS' Tr)
    {T : u_T} {N : Nat} (hcl : cl[ci]? = some (y.cls, T, N)) (w1 : Jvm.Cond.methodLinkNest own i y host ∈ wd) (w2 : Jvm.Cond.instanceMethod y ∈ wd) (w3 : Jvm.Cond.selects y.cls y y ∈ wd) (w4 : Jvm.Cond.initialized y.cls ∈ wd) (w5 : Jvm.Cond.code y cc' nL' ret' ∈ wd)
    (hd : y.cls ≠ "java/lang/invoke/MethodHandle" ∧ y.cls ≠ "java/lang/invoke/VarHandle" ∧ (parseMethodDescriptor y.desc).map (fun d => d.parameters.length) = some n) (hR' : fr' + 1 ≤ R.frames ∧ 8 + (nL' + 11) + lo' ≤ R.locals) :
    ab_TC1 p l e R s m args below meth c D cl ty ts base nL MC MS QQ cc i (0, ci, n + 1, MC', MS', Tr) := by
  intro pc ls as r h k z Kc hdc hlen hsz hk hz hrv hTr hcont H locs lsA hR hS hL hk0 hz0
  obtain ⟨b, As, fs, rfl, hob⟩ := ab_rv_el (hrv rfl)
  · have hcell := (hR.2 b _ hob).1
    obtain ⟨q', h1, cell, g1, g2, g3, -⟩ : va_at D cl (b, .inr (ci, fs.map ab_v)) H := hcell
    cases hcl.symm.trans h1
    have hst : (((.inr (.inl (some b)) :: As : List AV).reverse ++ r).map ab_v) = (As.map ab_v).reverse ++ .ref b :: r.map ab_v := by simp [ab_v, va_rf]
    rw [hst]
    have hn : (As.map ab_v).length = n := by simp at hlen ⊢; exact hlen
    refine ab_after (va_runVN (cc := cc) (nL := nL) (Ts := []) (own := own) (host := host) (As := As.map ab_v) (rest := r.map ab_v) (n := n) ⟨hx, hb, hml, hown, fun w hw => absurd hw List.not_mem_nil⟩ (hM _ h Kc hTr)
      (C := y.cls) (bytes := cc') (maxL := nL') (ret := ret') ⟨⟨⟨rfl, rfl, hR'.1, hR'.2, ab_cb hwd hF w5, List.mem_singleton.mpr rfl⟩, ab_hw hwd hF w5, ab_hw hwd hF w4, ⟨hd.1, hd.2.1⟩, fun sig hs => ?_, ab_hw hwd hF w1⟩, ab_hw hwd hF w2, ab_hw hwd hF w3⟩
      ⟨ab_blind hwd, ⟨cell, g1, by rw [g3]; rfl, by rw [g2]; exact (hF.1 ci _ hcl).2.1⟩, ?_⟩ rfl hn hL.1 rfl ?_ hdc ⟨by rw [hRC.1]; exact hk, by rw [hRC.2]; exact hz⟩) hS hL hk hz hcont
    · have h2 := hd.2.2
      rw [hs] at h2
      exact (Option.some.inj h2).symm
    · exact ab_pre (as := .inr (.inl (some b)) :: As) hwd hR hF
    · exact Nat.le_trans (Nat.le_of_eq (ab_szs (m := m) r)) hsz
theorem ab_tc_S (hx : p.tables.exec = Jvm.exec) (hb : c.code = cc) (hml : c.maxLocals = nL) {own : String} (hown : s.vm.findClass own = some m.cls) (hwd : ∀ w ∈ wd, ab_ok w = true) (hF : ab_F D cl ty ts wd s) (hRC : R.cells = MC ∧ R.slots = MS)
    {i : Nat} {y : MethodName} {cc' : ByteArray} {nL' fr' lo' MC' MS' n : Nat} {ret' : Option FieldType} {Tr : ATr} (hM : ab_Con l D cl ty ts base wd y cc' nL' ret' fr' lo' MC' MS' Tr)
    (w1 : Jvm.Cond.methodLink own i y ∈ wd) (w2 : Jvm.Cond.static y ∈ wd) (w4 : Jvm.Cond.initialized y.cls ∈ wd) (w5 : Jvm.Cond.code y cc' nL' ret' ∈ wd)
    (hd : y.cls ≠ "java/lang/invoke/MethodHandle" ∧ y.cls ≠ "java/lang/invoke/VarHandle" ∧ (parseMethodDescriptor y.desc).map (fun d => d.parameters.length) = some n) (hR' : fr' + 1 ≤ R.frames ∧ 8 + (nL' + 11) + lo' ≤ R.locals) :
    ab_TC1 p l e R s m args below meth c D cl ty ts base nL MC MS QQ cc i (2, 0, n, MC', MS', Tr) := by
  intro pc ls as r h k z Kc hdc hlen hsz hk hz hrv hTr hcont H locs lsA hR hS hL hk0 hz0
  have hst : ((as.reverse ++ r).map ab_v) = (as.map ab_v).reverse ++ r.map ab_v := by simp
  rw [hst]
  have hn : (as.map ab_v).length = n := by simp; exact hlen
  refine ab_after (va_runS (cc := cc) (nL := nL) (Ts := []) (own := own) (As := as.map ab_v) (rest := r.map ab_v) (n := n) ⟨hx, hb, hml, hown, fun w hw => absurd hw List.not_mem_nil⟩ (hM _ h Kc hTr)
    (bytes := cc') (maxL := nL') (ret := ret') ⟨⟨rfl, rfl, hR'.1, hR'.2, ab_cb hwd hF w5, List.mem_singleton.mpr rfl, ab_hw hwd hF w5, ab_hw hwd hF w4, ⟨hd.1, hd.2.1⟩, fun sig hs => ?_, ab_hw hwd hF w1⟩, ab_hw hwd hF w2⟩
    ⟨ab_blind hwd, ab_pre hwd hR hF⟩ rfl hn hL.1 rfl ?_ hdc ⟨by rw [hRC.1]; exact hk, by rw [hRC.2]; exact hz⟩) hS hL hk hz hcont
  · have h2 := hd.2.2
    rw [hs] at h2
    exact (Option.some.inj h2).symm
  · exact Nat.le_trans (Nat.le_of_eq (ab_szs (m := m) r)) hsz
theorem ab_tc_SN (hx : p.tables.exec = Jvm.exec) (hb : c.code = cc) (hml : c.maxLocals = nL) {own host : String} (hown : s.vm.findClass own = some m.cls) (hwd : ∀ w ∈ wd, ab_ok w = true) (hF : ab_F D cl ty ts wd s) (hRC : R.cells = MC ∧ R.slots = MS)
    {i : Nat} {y : MethodName} {cc' : ByteArray} {nL' fr' lo' MC' MS' n : Nat} {ret' : Option FieldType} {Tr : ATr} (hM : ab_Con l D cl ty ts base wd y cc' nL' ret' fr' lo' MC' MS' Tr)
    (w1 : Jvm.Cond.methodLinkNest own i y host ∈ wd) (w2 : Jvm.Cond.static y ∈ wd) (w4 : Jvm.Cond.initialized y.cls ∈ wd) (w5 : Jvm.Cond.code y cc' nL' ret' ∈ wd)
    (hd : y.cls ≠ "java/lang/invoke/MethodHandle" ∧ y.cls ≠ "java/lang/invoke/VarHandle" ∧ (parseMethodDescriptor y.desc).map (fun d => d.parameters.length) = some n) (hR' : fr' + 1 ≤ R.frames ∧ 8 + (nL' + 11) + lo' ≤ R.locals) :
    ab_TC1 p l e R s m args below meth c D cl ty ts base nL MC MS QQ cc i (2, 0, n, MC', MS', Tr) := by
  intro pc ls as r h k z Kc hdc hlen hsz hk hz hrv hTr hcont H locs lsA hR hS hL hk0 hz0
  have hst : ((as.reverse ++ r).map ab_v) = (as.map ab_v).reverse ++ r.map ab_v := by simp
  rw [hst]
  have hn : (as.map ab_v).length = n := by simp; exact hlen
  refine ab_after (va_runSN (cc := cc) (nL := nL) (Ts := []) (own := own) (host := host) (As := as.map ab_v) (rest := r.map ab_v) (n := n) ⟨hx, hb, hml, hown, fun w hw => absurd hw List.not_mem_nil⟩ (hM _ h Kc hTr)
    (bytes := cc') (maxL := nL') (ret := ret') ⟨⟨⟨rfl, rfl, hR'.1, hR'.2, ab_cb hwd hF w5, List.mem_singleton.mpr rfl⟩, ab_hw hwd hF w5, ab_hw hwd hF w4, ⟨hd.1, hd.2.1⟩, fun sig hs => ?_, ab_hw hwd hF w1⟩, ab_hw hwd hF w2, trivial⟩
    ⟨ab_blind hwd, ab_pre hwd hR hF⟩ rfl hn hL.1 rfl ?_ hdc ⟨by rw [hRC.1]; exact hk, by rw [hRC.2]; exact hz⟩) hS hL hk hz hcont
  · have h2 := hd.2.2
    rw [hs] at h2
    exact (Option.some.inj h2).symm
  · exact Nat.le_trans (Nat.le_of_eq (ab_szs (m := m) r)) hsz
theorem ab_tc_I (hx : p.tables.exec = Jvm.exec) (hb : c.code = cc) (hml : c.maxLocals = nL) {own : String} (hown : s.vm.findClass own = some m.cls) (hwd : ∀ w ∈ wd, ab_ok w = true) (hF : ab_F D cl ty ts wd s) (hRC : R.cells = MC ∧ R.slots = MS)
    {i : Nat} {y : MethodName} {cc' : ByteArray} {nL' fr' lo' MC' MS' n : Nat} {Tr : ATr} (hM : ab_Con l D cl ty ts base wd y cc' nL' none fr' lo' MC' MS' Tr) (hTr0 : ∀ as h K, Tr as h K → ∃ b As, as = .inr (.inl (some b)) :: As)
    (w1 : Jvm.Cond.methodLink own i y ∈ wd) (w2 : Jvm.Cond.instanceMethod y ∈ wd) (w4 : Jvm.Cond.initialized y.cls ∈ wd) (w5 : Jvm.Cond.code y cc' nL' none ∈ wd) (hy1 : y.name = "<init>")
    (hd : y.cls ≠ "java/lang/invoke/MethodHandle" ∧ y.cls ≠ "java/lang/invoke/VarHandle" ∧ (parseMethodDescriptor y.desc).map (fun d => d.parameters.length) = some n) (hR' : fr' + 1 ≤ R.frames ∧ 8 + (nL' + 11) + lo' ≤ R.locals) :
    ab_TC1 p l e R s m args below meth c D cl ty ts base nL MC MS QQ cc i (1, 0, n + 1, MC', MS', Tr) := by
  intro pc ls as r h k z Kc hdc hlen hsz hk hz hrv hTr hcont H locs lsA hR hS hL hk0 hz0
  obtain ⟨b, As, rfl⟩ := hTr0 _ _ _ hTr
  have hst : (((.inr (.inl (some b)) :: As : List AV).reverse ++ r).map ab_v) = (As.map ab_v).reverse ++ .ref b :: r.map ab_v := by simp [ab_v, va_rf]
  rw [hst]
  have hn : (As.map ab_v).length = n := by simp at hlen ⊢; exact hlen
  refine ab_after (va_runI (cc := cc) (nL := nL) (Ts := []) (own := own) (As := As.map ab_v) (rest := r.map ab_v) (n := n) ⟨hx, hb, hml, hown, fun w hw => absurd hw List.not_mem_nil⟩ (hM _ h Kc hTr)
    (bytes := cc') (maxL := nL') ⟨⟨rfl, rfl, hR'.1, hR'.2, ab_cb hwd hF w5, List.mem_singleton.mpr rfl, ab_hw hwd hF w5, ab_hw hwd hF w4, ⟨hd.1, hd.2.1⟩, fun sig hs => ?_, ab_hw hwd hF w1⟩, hy1, ab_hw hwd hF w2⟩
    ⟨ab_blind hwd, ?_⟩ rfl hn hL.1 rfl ?_ hdc ⟨by rw [hRC.1]; exact hk, by rw [hRC.2]; exact hz⟩) hS hL hk hz hcont
  · have h2 := hd.2.2
    rw [hs] at h2
    exact (Option.some.inj h2).symm
  · exact ab_pre (as := .inr (.inl (some b)) :: As) hwd hR hF
  · exact Nat.le_trans (Nat.le_of_eq (ab_szs (m := m) r)) hsz
theorem ab_tc_IN (hx : p.tables.exec = Jvm.exec) (hb : c.code = cc) (hml : c.maxLocals = nL) {own host : String} (hown : s.vm.findClass own = some m.cls) (hwd : ∀ w ∈ wd, ab_ok w = true) (hF : ab_F D cl ty ts wd s) (hRC : R.cells = MC ∧ R.slots = MS)
    {i : Nat} {y : MethodName} {cc' : ByteArray} {nL' fr' lo' MC' MS' n : Nat} {Tr : ATr} (hM : ab_Con l D cl ty ts base wd y cc' nL' none fr' lo' MC' MS' Tr) (hTr0 : ∀ as h K, Tr as h K → ∃ b As, as = .inr (.inl (some b)) :: As)
    (w1 : Jvm.Cond.methodLinkNest own i y host ∈ wd) (w2 : Jvm.Cond.instanceMethod y ∈ wd) (w4 : Jvm.Cond.initialized y.cls ∈ wd) (w5 : Jvm.Cond.code y cc' nL' none ∈ wd) (hy1 : y.name = "<init>")
    (hd : y.cls ≠ "java/lang/invoke/MethodHandle" ∧ y.cls ≠ "java/lang/invoke/VarHandle" ∧ (parseMethodDescriptor y.desc).map (fun d => d.parameters.length) = some n) (hR' : fr' + 1 ≤ R.frames ∧ 8 + (nL' + 11) + lo' ≤ R.locals) :
    ab_TC1 p l e R s m args below meth c D cl ty ts base nL MC MS QQ cc i (1, 0, n + 1, MC', MS', Tr) := by
  intro pc ls as r h k z Kc hdc hlen hsz hk hz hrv hTr hcont H locs lsA hR hS hL hk0 hz0
  obtain ⟨b, As, rfl⟩ := hTr0 _ _ _ hTr
  have hst : (((.inr (.inl (some b)) :: As : List AV).reverse ++ r).map ab_v) = (As.map ab_v).reverse ++ .ref b :: r.map ab_v := by simp [ab_v, va_rf]
  rw [hst]
  have hn : (As.map ab_v).length = n := by simp at hlen ⊢; exact hlen
  refine ab_after (va_runIN (cc := cc) (nL := nL) (Ts := []) (own := own) (host := host) (As := As.map ab_v) (rest := r.map ab_v) (n := n) ⟨hx, hb, hml, hown, fun w hw => absurd hw List.not_mem_nil⟩ (hM _ h Kc hTr)
    (bytes := cc') (maxL := nL') ⟨⟨⟨rfl, rfl, hR'.1, hR'.2, ab_cb hwd hF w5, List.mem_singleton.mpr rfl⟩, ab_hw hwd hF w5, ab_hw hwd hF w4, ⟨hd.1, hd.2.1⟩, fun sig hs => ?_, ab_hw hwd hF w1⟩, hy1, ab_hw hwd hF w2⟩
    ⟨ab_blind hwd, ?_⟩ rfl hn hL.1 rfl ?_ hdc ⟨by rw [hRC.1]; exact hk, by rw [hRC.2]; exact hz⟩) hS hL hk hz hcont
  · have h2 := hd.2.2
    rw [hs] at h2
    exact (Option.some.inj h2).symm
  · exact ab_pre (as := .inr (.inl (some b)) :: As) hwd hR hF
  · exact Nat.le_trans (Nat.le_of_eq (ab_szs (m := m) r)) hsz
/-- Object's constructor -/
def ab_Oi : ATr := fun as h K => match as with
  | [.inr (.inl (some _))] => K none h
  | _ => False
theorem ab_Oi_mo : ab_mo ab_Oi := by
  intro as h K K' hk ht
  unfold ab_Oi at ht ⊢
  split at ht
  · exact hk _ _ ht
  · exact ht.elim
theorem ab_tc_O (hx : p.tables.exec = Jvm.exec) (hb : c.code = cc) (hml : c.maxLocals = nL) {own : String} (hown : s.vm.findClass own = some m.cls) (hwd : ∀ w ∈ wd, ab_ok w = true) (hF : ab_F D cl ty ts wd s) {i : Nat}
    (w1 : Jvm.Cond.methodLink own i objectInit ∈ wd) (w2 : Jvm.Cond.instanceMethod objectInit ∈ wd) (w5 : Jvm.Cond.code objectInit ⟨#[0xb1]⟩ 1 none ∈ wd) (hfr : 1 ≤ R.frames) (hlo : 20 ≤ R.locals) :
    ab_TC1 p l e R s m args below meth c D cl ty ts base nL MC MS QQ cc i (1, 0, 1, 0, 0, ab_Oi) := by
  intro pc ls as r h k z Kc hdc hlen hsz hk hz hrv hTr hcont H locs lsA hR hS hL hk0 hz0
  have hTr' : ab_Oi as h Kc := hTr
  unfold ab_Oi at hTr'
  split at hTr'
  · rename_i b
    have hsz' := ab_szs (m := m) r
    have h0 : (F0 m 0 #[] []).monitorRoom = 0 := rfl
    rw [h0] at hsz'
    refine W.objInit hx hb hown (ab_hw hwd hF w1) (ab_hw hwd hF w2) (ab_hw hwd hF w5) rfl (by rw [hml]; exact hL.1) (a := b) (rest := r.map ab_v) (by simp [ab_v, va_rf]) hdc hfr (by show 2 * 0 + _ + 12 ≤ _; have hsz2 : ab_sz r ≤ 8 := hsz; omega) ?_
    exact hcont none h hTr' H locs lsA hR hS hL hk hz
  · exact hTr'.elim
end ABC
