/-! ===== methods that throw: a thrown exception is told as a long number (1 IllegalArgument, 2 IllegalState, 3 IndexOutOfBounds) ===== -/
def exN : Nat → String
  | 1 => "java/lang/IllegalArgumentException"
  | 2 => "java/lang/IllegalStateException"
  | _ => "java/lang/IndexOutOfBoundsException"
def exK (n : Nat) : Prop := n = 1 ∨ n = 2 ∨ n = 3
def exL : List String := ["java/lang/RuntimeException", "java/lang/Exception"]
def ab_XF (base : Nat) (U : State) (H : Heap) : Prop := vx_Zq Bundle.tN "UNASSIGNED_STACK" Bundle.steD (fun q => base ≤ q) U H ∧ vx_Zq Bundle.tN "SUPPRESSED_SENTINEL" Bundle.listD (fun q => base ≤ q) U H ∧ ∀ i j, exK i → exK j → i ≠ j → va_Nc (exN i) (exN j) U
theorem ab_XF.moved {base : Nat} {u U : State} {H : Heap} (hvm : u.vm.Alike U.vm) (h : ab_XF base u H) : ab_XF base U H := ⟨h.1.moved hvm, h.2.1.moved hvm, fun i j hi hj hij => (h.2.2 i j hi hj hij).moved hvm⟩
theorem ab_XF.kept {base : Nat} {U : State} {H H1 : Heap} (h : ab_XF base U H) (hq : ∀ a : Nat, a < H.size → ¬ base ≤ a → H1[a]? = H[a]?) : ab_XF base U H1 := ⟨h.1.kept hq, h.2.1.kept hq, h.2.2⟩
def ab_XC (D : va_G) (cl : List vw_C) (ty : Nat → ClassId) (ts : List Nat) (base : Nat) (K : Option AV → AH → Prop) : String → State → State → Prop := fun E st t =>
  ∃ (n : Nat) (h' : AH), E = exN n ∧ exK n ∧ K (some (.inr (.inr (.inl (n : Int))))) h' ∧ ab_R D cl ty ts base t h' t.heap ∧ va_F (fun q => base ≤ q) st t
def ab_PcX (D : va_G) (cl : List vw_C) (ty : Nat → ClassId) (ts : List Nat) (base : Nat) (wd : List Jvm.Cond) (as : List AV) (h : AH) : Array Value → State → Prop := fun v U => ab_Pc D cl ty ts base wd as h v U ∧ ab_XF base U U.heap
/-- what a return tells is no long number -/
def ab_nl (K : Option AV → AH → Prop) : Option AV → AH → Prop := fun r h' => K r h' ∧ ∀ v : Int, r ≠ some (.inr (.inr (.inl v)))
theorem ab_s1_nl {tb : ATb} {ts : List Nat} {base : Nat} {ca : Nat → Option ACS} {rt MC MS : Nat} {K : Option AV → AH → Prop} {V : AVt} (hrt : rt ≠ 5) {ins : ClassFile.Instr} {len pc : Nat} {ls : ALs} {st : List AV} {h : AH} {k z : Nat}
    (hs : ab_s1 tb ts base ca rt MC MS K V ins len pc ls st h k z) : ab_s1 tb ts base ca rt MC MS (ab_nl K) V ins len pc ls st h k z := by
  cases ins
  case ireturn => exact ⟨hs.1, ab_I_mo (fun a r q => ⟨q.1, q.2, fun v h => by cases h⟩) hs.2⟩
  case areturn => exact ⟨hs.1, ab_A_mo (fun a r q => ⟨q.1, q.2, fun v h => by cases h⟩) hs.2⟩
  case dreturn => exact ⟨hs.1, ab_vD_mo (fun a q => ⟨q.1, q.2, fun v h => by cases h⟩) hs.2⟩
  case lreturn =>
    obtain ⟨e, hs1⟩ := hs
    obtain ⟨v, hv, ⟨h0, h1⟩, h2⟩ := ab_vL_el hs1
    exact absurd h1 hrt
  case return_ => exact ⟨hs.1, hs.2.1, hs.2.2, fun v h => by cases h⟩
  all_goals exact hs
def ab_ConX (l : Launch) (D : va_G) (cl : List vw_C) (ty : Nat → ClassId) (ts : List Nat) (base : Nat) (wd : List Jvm.Cond) (y : MethodName) (cc : ByteArray) (nL : Nat) (ret : Option FieldType) (fr lo MC MS : Nat) (Tr : ATr) : Prop :=
  ∀ (as : List AV) (h : AH) (K : Option AV → AH → Prop), Tr as h K → vx_Met l y [Cond.code y cc nL ret] ({ frames := fr, cells := MC, slots := MS, locals := lo }) (ab_PcX D cl ty ts base wd as h) (ab_Q D cl ty ts base (ab_nl K)) (ab_XC D cl ty ts base K) MC MS (fun q => base ≤ q)
/-- a text that may throw meets its transformer -/
def ab_SemX (tb : ATb) (ts : List Nat) (base : Nat) (cc : ByteArray) (ca : Nat → Option ACS) (rt nL MC MS : Nat) (en : List AV → ALs) (Tr : ATr) (xs : List (Nat × Nat)) : Prop :=
  ∀ (as : List AV) (h : AH) (K : Option AV → AH → Prop), Tr as h K → ∀ V : AVt, (∀ (stop : Nat → Bool) (n pc : Nat) (ls : ALs) (st : List AV) (h : AH) (k z : Nat), ab_step tb ts base cc ca rt MC MS K (ab_wp (ab_step tb ts base cc ca rt MC MS K) stop V n) pc ls st h k z → V pc ls st h k z) →
    (∀ x ∈ xs, ∀ (ls : ALs) (st : List AV) (h : AH) (k z : Nat), ab_sz st ≤ 8 → k + 1 ≤ MC → z + 6 ≤ MS → K (some (.inr (.inr (.inl (x.2 : Int))))) h → V x.1 ls st h k z) → V 0 (en as) [] h 0 0
/-- a place where an exception is made and thrown -/
def ab_xs (own : String) (wd : List Jvm.Cond) (cc : ByteArray) (x : Nat × Nat) : Prop := exK x.2 ∧ ∃ (ik is ic : Nat) (text : String), decode cc x.1 = .ok (.new ik, 3) ∧ decode cc (x.1 + 3) = .ok (.dup, 1) ∧ decode cc (x.1 + 4) = .ok (.ldc is, 2) ∧ decode cc (x.1 + 6) = .ok (.invokespecial ic, 3) ∧ decode cc (x.1 + 9) = .ok (.athrow, 1) ∧
  Jvm.Cond.classLink own ik (exN x.2) ∈ wd ∧ Jvm.Cond.initialized (exN x.2) ∈ wd ∧ Jvm.Cond.stringRef own is text ∈ wd ∧ (∀ w ∈ vx_atS own ic (exN x.2) exL, w ∈ wd) ∧ (Jvm.Cond.classLink own ik (exN x.2) :: Jvm.Cond.initialized (exN x.2) :: vx_atS own ic (exN x.2) exL).all vx_ot = true
theorem exN_fit {n : Nat} (h : exK n) : Bundle.fit (exN n) = true := by
  rcases h with rfl | rfl | rfl <;> decide +kernel
theorem exL_fit : ∀ n ∈ exL, Bundle.fit n = true := by
  intro n hn
  have h : exL.all Bundle.fit = true := by decide +kernel
  exact List.all_eq_true.mp h n hn
theorem ab_strR {own tx : String} {k : Nat} {s : State} {args : Array Value} {c : ClassId} (hown : s.vm.findClass own = some c) (h : (Jvm.Cond.stringRef own k tx).before args s = true) : ∃ a, vk_R own k tx a s := by
  obtain ⟨-, -, -, a, -, -, -, -, -, e⟩ := Cond.stringRef_spec (o := none) (first := s) (idx := []) hown h
  exact ⟨a, vk_R.of h e⟩
/-- a text that may throw gives the method's contract -/
theorem ab_conX_of {l : Launch} (hl : l.stackTraces = false) {D : va_G} {cl : List vw_C} {ty : Nat → ClassId} {ts : List Nat} {base : Nat} {wd : List Jvm.Cond} {own : String} {y : MethodName} {cc : ByteArray} {nL fr lo MC MS rt : Nat} {ret : Option FieldType} {tb : ATb} {ini : Bool} {ca : Nat → Option ACS} {Tr : ATr} {xs : List (Nat × Nat)}
    (hy : plainName y.cls = true) (hyo : y.cls = own) (hini : ini = true → y.name = "<init>") (hrt : ab_rk ret = rt) (hwd : ∀ w ∈ wd, ab_ok w = true) (htb : ab_Tb own cl wd ini tb) (hA : (∀ t, ab_at t ∈ ts → Jvm.Cond.arrayClass (newarray.typeOf t) ∈ wd) ∧ Jvm.Cond.arrayOver (.array .int) ∈ wd)
    (hmo : ∀ i q, ca i = some q → ab_mo q.2.2.2.2.2)
    (hC : ∀ (p : Program) (e : Env) (R : Room) (s : State) (m : MethodId) (args : Array Value) (below : List Frame) (meth : Method) (c : Code) (QQ : State → Prop), ab_Cx D cl ty ts wd own cc nL fr lo MC MS p R s m c → ab_TC p l e R s m args below meth c D cl ty ts base nL MC MS QQ cc ca)
    (hlen : ∀ as h K, Tr as h K → ab_sz as ≤ nL) (hxs : ∀ x ∈ xs, ab_xs own wd cc x) (hrm : 6 ≤ fr ∧ 90 ≤ lo) (hrt5 : rt ≠ 5) (hsem : ab_SemX tb ts base cc ca rt nL MC MS (fun as => ab_en as nL) Tr xs) : ab_ConX l D cl ty ts base wd y cc nL ret fr lo MC MS Tr := by
  intro as h K hTr
  refine vx_ofW (cc := cc) (maxL := nL) (ret := ret) hy rfl ?_
  intro p e s m args below meth c s₁ B hml hno hv
  obtain ⟨⟨rfl, hR, hF⟩, hXF⟩ := hv
  have hx := B.exec
  have hb := B.bytes
  have hr := B.returns
  have hown : s.vm.findClass own = some m.cls := by rw [← hyo]; exact findClass_of_methodNamed B.named
  have hlocks := B.notSynchronized
  have hin : meth.name = y.name := (name_of_methodNamed B.named B.method).1
  have hL := lv_entry (as.map ab_v) (n := nL) (by rw [ab_lgs]; exact hlen _ _ _ hTr)
  rw [lg_entry_eq]
  generalize (lg_sl (as.map ab_v) ++ List.replicate (nL - (lg_sl (as.map ab_v)).length) Slot.unset).toArray = lsA at hL ⊢
  have hL' : ab_L lsA nL (ab_en as nL) := ⟨hL.1, hL.2.1, Nat.le_of_eq (ab_en_len as nL (by rw [ab_lgs]; exact hlen _ _ _ hTr)), fun i v hg => by
    have := hL.2.2 _ (ab_en_g as nL 0 i v hg)
    simpa using this⟩
  have hTC := hC p e ({ frames := fr, cells := MC, slots := MS, locals := lo } : Room) s m (as.map ab_v).toArray below meth c (vx_MQ below (ab_Q D cl ty ts base (ab_nl K)) (ab_XC D cl ty ts base K) (as.map ab_v).toArray s MC MS (fun q => base ≤ q)) ⟨hx, hb, hml, hown, hF, rfl⟩
  have hV := hsem as h K hTr (ab_V p l e ({ frames := fr, cells := MC, slots := MS, locals := lo } : Room) s m (as.map ab_v).toArray below meth c D cl ty ts base nL MC MS (vx_MQ below (ab_Q D cl ty ts base (ab_nl K)) (ab_XC D cl ty ts base K) (as.map ab_v).toArray s MC MS (fun q => base ≤ q))) (fun stop n pc ls st h k z hs => by
    have hcl : ∀ pc ls st h k z, ab_step tb ts base cc ca rt MC MS K (ab_V p l e ({ frames := fr, cells := MC, slots := MS, locals := lo } : Room) s m (as.map ab_v).toArray below meth c D cl ty ts base nL MC MS (vx_MQ below (ab_Q D cl ty ts base (ab_nl K)) (ab_XC D cl ty ts base K) (as.map ab_v).toArray s MC MS (fun q => base ≤ q))) pc ls st h k z → ab_V p l e ({ frames := fr, cells := MC, slots := MS, locals := lo } : Room) s m (as.map ab_v).toArray below meth c D cl ty ts base nL MC MS (vx_MQ below (ab_Q D cl ty ts base (ab_nl K)) (ab_XC D cl ty ts base K) (as.map ab_v).toArray s MC MS (fun q => base ≤ q)) pc ls st h k z := by
      intro pc ls st h k z hs
      rw [ab_stp] at hs
      split at hs
      · rename_i ins len hd
        exact ab_sound hx hb hlocks (by rw [hr]; exact hrt) ⟨rfl, rfl⟩ (fun t ⟨o, b1, b2, b3, b4⟩ => ⟨o, b1, b2, Or.inl ⟨b3, b4⟩⟩) hF.2.1 (fun t ht => ab_hw hwd hF (hA.1 t ht)) (ab_tg_of hx hb hown hwd hF htb) (ab_tp_of hx hb hown (fun h => by rw [hin]; exact hini h) hwd hF htb) (ab_tn_of hx hb hown hwd hF htb) (ab_tl_of hx hb hown hwd hF htb) (ab_ta_of hown hwd hF htb) (ab_hw hwd hF hA.2) hTC hd (ab_s1_nl hrt5 hs)
      · exact hs.elim
    exact hcl _ _ _ _ _ _ (ab_step_mo hmo (ab_wp_V hmo hcl stop n) hs)) (fun x hxm ls st h2 k z hsz hk1 hz1 hK H locs lsB hR2 hS2 hL2 hk2 hz2 => by
    obtain ⟨hn, ik, is, ic, text, d0, d3, d4, d6, d9, w1, w2, w3, w4, w5⟩ := hxs x hxm
    obtain ⟨sa, hsa⟩ := ab_strR hown (ab_hw (args := #[]) hwd hF w3)
    refine vx_throwS (names := exL) (A := fun q => base ≤ q) hx hb hl hown (exN_fit hn) exL_fit (ab_hw hwd hF w1) (ab_hw hwd hF w2) hsa (fun w hw => ab_hw hwd hF (w4 w hw)) (fun w hw => List.all_eq_true.mp w5 w hw) hXF.1 hXF.2.1 hS2 (by rw [hL2.1, hml]) d0 d3 d4 d6 d9 (fun x hx9 => (hno x hx9).elim) (by show 2 + 3 < fr; omega) ?_ hk1 hz1 hlocks ?_ hS2.2.2 hk1 hz1
    · have hs9 := ab_szs (m := m) st
      have h0 : (F0 m 0 #[] []).monitorRoom = 0 := rfl
      rw [h0] at hs9
      show _ + (13 * (2 + 1) + 43) ≤ lo
      omega
    · intro t hal h1 hq
      refine ⟨x.2, h2, rfl, hn, hK, ?_, ?_⟩
      · have hR3 := hR2.moved hal
        exact ⟨Nat.le_trans hR3.1 h1, fun a c hc => ⟨(hR3.2 a c hc).1.kept (hq a (hR3.2 a c hc).1.lt), (hR3.2 a c hc).2⟩⟩
      · exact ⟨Nat.le_trans hS2.1 h1, fun q h3 h4 => (hq q (Nat.lt_of_lt_of_le h3 hS2.1)).trans (hS2.2.1 q h3 h4)⟩)
  exact hV s.heap [] lsA hR va_S.rf hL' (Nat.zero_le _) (Nat.zero_le _)
/-! ===== a method that catches: one place where another is called, handlers by their numbers ===== -/
theorem ab_PcB {D : va_G} {cl : List vw_C} {ty : Nat → ClassId} {ts : List Nat} {base : Nat} {wd : List Jvm.Cond} {as : List AV} {h : AH} (hwd : ∀ w ∈ wd, ab_ok w = true) : FrameBlind (ab_PcX D cl ty ts base wd as h) := by
  intro a U g mk q
  exact ⟨ab_blind hwd a U g mk q.1, ab_XF.moved (Vm.Alike.refl U.vm) q.2⟩
def ab_ConW (l : Launch) (D : va_G) (cl : List vw_C) (ty : Nat → ClassId) (ts : List Nat) (base : Nat) (wd : List Jvm.Cond) (y : MethodName) (cc : ByteArray) (nL : Nat) (ret : Option FieldType) (hh : List (Nat × Nat × Nat × Nat)) (fr lo MC MS : Nat) (Tr : ATr) : Prop :=
  ∀ (as : List AV) (h : AH) (K : Option AV → AH → Prop), Tr as h K → Met l y [Jvm.Cond.codeWith y cc nL ret hh] ({ frames := fr, cells := MC, slots := MS, locals := lo }) (ab_PcX D cl ty ts base wd as h) (ab_Q D cl ty ts base K) MC MS (fun q => base ≤ q)
/-- what the place of the call may be taken to do: (its pc, class of the receiver, arguments, cells, slots, the callee's transformer, the handlers) -/
def ab_Cs (V : AVt) (MC MS pc ci n mc ms : Nat) (TrC : ATr) (hp : Nat → Option Nat) : Prop := ∀ (ls : ALs) (as r : List AV) (h : AH) (k z : Nat), as.length = n → ab_sz r ≤ 8 → k + mc ≤ MC → z + ms ≤ MS → ab_rv as h ci →
  TrC as h (fun rv h' => (∀ v : Int, rv = some (.inl v) → V (pc + 3) ls (.inl v :: r) h' (k + mc) (z + ms)) ∧ (∀ n : Nat, rv = some (.inr (.inr (.inl (n : Int)))) → ∃ t, hp n = some t ∧ ∀ q : Nat, V t ls [.inr (.inl (some q))] h' (k + mc) (z + ms)) ∧ (rv ≠ none ∧ (∀ r9, rv ≠ some (.inr (.inl r9))) ∧ ∀ d9, rv ≠ some (.inr (.inr (.inr d9))))) →
  V pc ls (as.reverse ++ r) h k z
def ab_SemW (tb : ATb) (ts : List Nat) (base : Nat) (cc : ByteArray) (rt nL MC MS : Nat) (en : List AV → ALs) (Tr : ATr) (pc ci n mc ms : Nat) (TrC : ATr) (hp : Nat → Option Nat) : Prop :=
  ∀ (as : List AV) (h : AH) (K : Option AV → AH → Prop), Tr as h K → ∀ V : AVt, (∀ (stop : Nat → Bool) (n pc : Nat) (ls : ALs) (st : List AV) (h : AH) (k z : Nat), ab_step tb ts base cc (fun _ => none) rt MC MS K (ab_wp (ab_step tb ts base cc (fun _ => none) rt MC MS K) stop V n) pc ls st h k z → V pc ls st h k z) →
    ab_Cs V MC MS pc ci n mc ms TrC hp → V 0 (en as) [] h 0 0
/-- the handler that takes an exception -/
def ab_hd (own : String) (wd : List Jvm.Cond) (hh : List (Nat × Nat × Nat × Nat)) (pc n t : Nat) : Prop := ∃ (pre : List (Nat × Nat × Nat × Nat)) (x : Nat × Nat × Nat × Nat) (suf : List (Nat × Nat × Nat × Nat)), hh = pre ++ x :: suf ∧ (∀ z ∈ pre, z.2.2.2 ≠ 0 ∧ ∃ j, exK j ∧ n ≠ j ∧ Jvm.Cond.classLink own z.2.2.2 (exN j) ∈ wd) ∧ (x.1 ≤ pc ∧ pc < x.2.1) ∧ x.2.2.2 ≠ 0 ∧ x.2.2.1 = t ∧ Jvm.Cond.classLink own x.2.2.2 (exN n) ∈ wd ∧ Jvm.Cond.castable (exN n) (exN n) ∈ wd
theorem ab_conW_of {l : Launch} {D : va_G} {cl : List vw_C} {ty : Nat → ClassId} {ts : List Nat} {base : Nat} {wd : List Jvm.Cond} {own : String} {y : MethodName} {cc : ByteArray} {nL fr lo MC MS rt : Nat} {ret : Option FieldType} {tb : ATb} {hh : List (Nat × Nat × Nat × Nat)} {Tr : ATr}
    {pc ci n i nL' fr' lo' MC' MS' : Nat} {yC : MethodName} {cc' : ByteArray} {ret' : Option FieldType} {TrC : ATr} {hp : Nat → Option Nat} {T : u_T} {N : Nat}
    (hy : plainName y.cls = true) (hyo : y.cls = own) (hrt : ab_rk ret = rt) (hwd : ∀ w ∈ wd, ab_ok w = true) (htb : ab_Tb own cl wd false tb) (hA : (∀ t, ab_at t ∈ ts → Jvm.Cond.arrayClass (newarray.typeOf t) ∈ wd) ∧ Jvm.Cond.arrayOver (.array .int) ∈ wd)
    (hM : ab_ConX l D cl ty ts base wd yC cc' nL' ret' fr' lo' MC' MS' TrC)
    (hdc : decode cc pc = .ok (.invokevirtual i, 3)) (hcl : cl[ci]? = some (yC.cls, T, N)) (w1 : Jvm.Cond.methodLink own i yC ∈ wd) (w2 : Jvm.Cond.instanceMethod yC ∈ wd) (w3 : Jvm.Cond.selects yC.cls yC yC ∈ wd) (w4 : Jvm.Cond.initialized yC.cls ∈ wd) (w5 : Jvm.Cond.code yC cc' nL' ret' ∈ wd)
    (hd : yC.cls ≠ "java/lang/invoke/MethodHandle" ∧ yC.cls ≠ "java/lang/invoke/VarHandle" ∧ (parseMethodDescriptor yC.desc).map (fun d => d.parameters.length) = some n) (hR' : fr' + 1 ≤ fr ∧ 8 + (nL' + 11) + lo' ≤ lo)
    (hhd : ∀ n t, hp n = some t → ab_hd own wd hh pc n t)
    (hlen : ∀ as h K, Tr as h K → ab_sz as ≤ nL) (hsem : ab_SemW tb ts base cc rt nL MC MS (fun as => ab_en as nL) Tr pc ci (n + 1) MC' MS' TrC hp) : ab_ConW l D cl ty ts base wd y cc nL ret hh fr lo MC MS Tr := by
  intro as h K hTr
  refine va_MetW (cc := cc) (maxL := nL) (ret := ret) (hh := hh) hy rfl ?_
  intro p e s m args below meth c s₁ B hml hv
  obtain ⟨⟨rfl, hR, hF⟩, hXF⟩ := hv
  have hx := B.exec
  have hb := B.bytes
  have hr := B.returns
  have hown : s.vm.findClass own = some m.cls := by rw [← hyo]; exact findClass_of_methodNamed B.named
  have hlocks := B.notSynchronized
  have htab : c.exceptionTable.toList = tableOf hh := vx_table (x := y) B (atoms_spec (ws := [Jvm.Cond.codeWith y cc nL ret hh]) B.pre _ List.mem_cons_self)
  have hL := lv_entry (as.map ab_v) (n := nL) (by rw [ab_lgs]; exact hlen _ _ _ hTr)
  rw [lg_entry_eq]
  generalize (lg_sl (as.map ab_v) ++ List.replicate (nL - (lg_sl (as.map ab_v)).length) Slot.unset).toArray = lsA at hL ⊢
  have hL' : ab_L lsA nL (ab_en as nL) := ⟨hL.1, hL.2.1, Nat.le_of_eq (ab_en_len as nL (by rw [ab_lgs]; exact hlen _ _ _ hTr)), fun i v hg => by
    have := hL.2.2 _ (ab_en_g as nL 0 i v hg)
    simpa using this⟩
  have hV := hsem as h K hTr (ab_V p l e ({ frames := fr, cells := MC, slots := MS, locals := lo } : Room) s m (as.map ab_v).toArray below meth c D cl ty ts base nL MC MS (MQ below (ab_Q D cl ty ts base K) (as.map ab_v).toArray s MC MS (fun q => base ≤ q))) (fun stop n pc ls st h k z hs => by
    have hmo : ∀ (i : Nat) (q : ACS), (fun _ => none : Nat → Option ACS) i = some q → ab_mo q.2.2.2.2.2 := fun i q h => by cases h
    have hTC : ab_TC p l e ({ frames := fr, cells := MC, slots := MS, locals := lo } : Room) s m (as.map ab_v).toArray below meth c D cl ty ts base nL MC MS (MQ below (ab_Q D cl ty ts base K) (as.map ab_v).toArray s MC MS (fun q => base ≤ q)) cc (fun _ => none) := fun i q h => by cases h
    have hcl : ∀ pc ls st h k z, ab_step tb ts base cc (fun _ => none) rt MC MS K (ab_V p l e ({ frames := fr, cells := MC, slots := MS, locals := lo } : Room) s m (as.map ab_v).toArray below meth c D cl ty ts base nL MC MS (MQ below (ab_Q D cl ty ts base K) (as.map ab_v).toArray s MC MS (fun q => base ≤ q))) pc ls st h k z → ab_V p l e ({ frames := fr, cells := MC, slots := MS, locals := lo } : Room) s m (as.map ab_v).toArray below meth c D cl ty ts base nL MC MS (MQ below (ab_Q D cl ty ts base K) (as.map ab_v).toArray s MC MS (fun q => base ≤ q)) pc ls st h k z := by
      intro pc ls st h k z hs
      rw [ab_stp] at hs
      split at hs
      · rename_i ins len hd
        exact ab_sound hx hb hlocks (by rw [hr]; exact hrt) ⟨rfl, rfl⟩ (fun _ h => h) hF.2.1 (fun t ht => ab_hw hwd hF (hA.1 t ht)) (ab_tg_of hx hb hown hwd hF htb) (ab_tp_of hx hb hown (fun h => by cases h) hwd hF htb) (ab_tn_of hx hb hown hwd hF htb) (ab_tl_of hx hb hown hwd hF htb) (ab_ta_of hown hwd hF htb) (ab_hw hwd hF hA.2) hTC hd hs
      · exact hs.elim
    exact hcl _ _ _ _ _ _ (ab_step_mo hmo (ab_wp_V hmo hcl stop n) hs)) ?_
  · exact hV s.heap [] lsA hR va_S.rf hL' (Nat.zero_le _) (Nat.zero_le _)
  · intro ls as1 r h1 k z hlen1 hsz hk hz hrv hTrC H locs lsB hR1 hS1 hL1 hk1 hz1
    obtain ⟨b, As, fs, rfl, hob⟩ := ab_rv_el hrv
    obtain ⟨q', h2, cell, g1, g2, g3, -⟩ : va_at D cl (b, .inr (ci, fs.map ab_v)) H := (hR1.2 b _ hob).1
    cases hcl.symm.trans h2
    have hst : (((.inr (.inl (some b)) :: As : List AV).reverse ++ r).map ab_v) = (As.map ab_v).reverse ++ .ref b :: r.map ab_v := by simp [ab_v, va_rf]
    rw [hst]
    have hn : (As.map ab_v).length = n := by simp at hlen1 ⊢; exact hlen1
    have hrun := vx_runV (cc := cc) (nL := nL) (Ts := []) (own := own) (As := As.map ab_v) (rest := r.map ab_v) (n := n) (g := F0 m pc lsB ((As.map ab_v).reverse ++ .ref b :: r.map ab_v)) (cells := k) (slots := z) (locs := locs) (H := H) (e := e) (below := below) (meth := meth) (R := ({ frames := fr, cells := MC, slots := MS, locals := lo } : Room)) (args := (as.map ab_v).toArray) ⟨hx, hb, hml, hown, fun w hw => absurd hw List.not_mem_nil⟩ (hM _ h1 _ hTrC)
      (C := yC.cls) (bytes := cc') (maxL := nL') (ret := ret') ⟨⟨rfl, rfl, hR'.1, hR'.2, ab_cb hwd hF w5, List.mem_singleton.mpr rfl, ab_hw hwd hF w5, ab_hw hwd hF w4, ⟨hd.1, hd.2.1⟩, fun sig hs => by
        have h2 := hd.2.2
        rw [hs] at h2
        exact (Option.some.inj h2).symm, ab_hw hwd hF w1⟩, ab_hw hwd hF w2, ab_hw hwd hF w3⟩
      ⟨ab_PcB hwd, ⟨cell, g1, by rw [g3]; rfl, by rw [g2]; exact (hF.1 ci _ hcl).2.1⟩, fun U hU hW => ⟨ab_pre (as := .inr (.inl (some b)) :: As) hwd hR1 hF U hU hW, by rw [hU]; exact (hXF.kept hS1.2.1).moved hW.alike⟩⟩ rfl hn hL1.1 rfl (Nat.le_trans (Nat.le_of_eq (ab_szs (m := m) r)) hsz) hdc ⟨hk, hz⟩
    intro T hT X
    rcases hrun T hT X with ⟨v, st₀, t, T', L, h0, X', hLf, e1, e2, ⟨rv, h', hv, hKc, hR', hz1, hk1⟩, st⟩ | ⟨q, st₀, t, T', L, E, ce, h0, X', hLf, e1, e2, ⟨n9, h', rfl, hn9, hKc, hR', hz1, hk1⟩, hce, hcv, hcl9, st⟩
    · cases hv
      rw [h0] at hz1 hk1
      have hal : s.vm.Alike t.vm := by rw [← e2]; exact X'.warmed.alike
      obtain ⟨⟨c1, c2, c3, c4, c5⟩, c6⟩ := hKc
      have hS2 : va_S (fun q => base ≤ q) s.heap T'.heap (locs ++ L) := ⟨Nat.le_trans hS1.1 (by rw [e1]; exact hz1), fun q h1 h2 => by rw [e1, hk1 q (Nat.lt_of_lt_of_le h1 hS1.1) h2]; exact hS1.2.1 q h1 h2, fun q hq => by
        rcases List.mem_append.mp hq with h | h
        · exact hS1.2.2 q h
        · exact hLf q h⟩
      rcases rv with - | (v | r9 | v | d9)
      · exact absurd rfl c3
      · obtain ⟨t2, a1, b1⟩ := c1 v rfl T'.heap (locs ++ L) lsB (by rw [e1]; exact hR'.moved hal.symm) hS2 hL1 hk hz T' rfl X'
        exact ⟨t2, st t2 a1, b1⟩
      · exact absurd rfl (c4 r9)
      · exact absurd rfl (c6 v)
      · exact absurd rfl (c5 d9)
    · rw [h0] at hz1 hk1
      have hal : s.vm.Alike t.vm := by rw [← e2]; exact X'.warmed.alike
      obtain ⟨c1, c2, -⟩ := hKc
      have hS2 : va_S (fun q => base ≤ q) s.heap T'.heap (locs ++ L) := ⟨Nat.le_trans hS1.1 (by rw [e1]; exact hz1), fun q h1 h2 => by rw [e1, hk1 q (Nat.lt_of_lt_of_le h1 hS1.1) h2]; exact hS1.2.1 q h1 h2, fun q hq => by
        rcases List.mem_append.mp hq with h | h
        · exact hS1.2.2 q h
        · exact hLf q h⟩
      obtain ⟨t9, ht9, hVt⟩ := c2 n9 rfl
      obtain ⟨pre, x, suf, rfl, hpre, hcov, hx0, rfl, hw1, hw2⟩ := hhd n9 t9 ht9
      have hcc : ∀ w, w ∈ wd → w.before (as.map ab_v).toArray s = true := fun w hw => ab_hw hwd hF hw
      obtain ⟨t2, a1, b1⟩ := vx_catch (H := T'.heap) (locs := locs ++ L) (cells := k + MC') (slots := z + MS') (Q := MQ below (ab_Q D cl ty ts base K) (as.map ab_v).toArray s MC MS (fun q => base ≤ q)) (pc := pc) (ls := lsB) (rest := r.map ab_v) (ce := ce) (q := q) (E := exN n9) (name := exN n9) (own := own) hown (tableOf pre) ⟨x.1, x.2.1, x.2.2.1, x.2.2.2⟩ (tableOf suf) (by rw [htab]; simp [tableOf])
        (fun z hz => by
          obtain ⟨z0, hz0, rfl⟩ := List.mem_map.mp hz
          obtain ⟨y1, j, hj, hnj, hwj⟩ := hpre z0 hz0
          exact Or.inr ⟨y1, exN j, hcc _ hwj, hXF.2.2 n9 j hn9 hj hnj⟩) (by simp [covers, hcov.1, hcov.2]) hx0 (hcc _ hw1) (hcc _ hw2) (by rw [e1]; exact hce) hcv hcl9 (hVt q T'.heap (locs ++ L) lsB (by rw [e1]; exact hR'.moved hal.symm) hS2 hL1 hk hz) T' rfl X'
      exact ⟨t2, st.trans a1, b1⟩
/-- a call of a method with handlers -/
theorem ab_tc_SW {p : Program} {l : Launch} {e : Env} {R : Room} {s : State} {m : MethodId} {args : Array Value} {below : List Frame} {meth : Method} {c : Code} {D : va_G} {cl : List vw_C} {ty : Nat → ClassId} {ts : List Nat} {base : Nat} {wd : List Jvm.Cond} {nL MC MS : Nat} {QQ : State → Prop} {cc : ByteArray}
    (hx : p.tables.exec = Jvm.exec) (hb : c.code = cc) (hml : c.maxLocals = nL) {own : String} (hown : s.vm.findClass own = some m.cls) (hwd : ∀ w ∈ wd, ab_ok w = true) (hF : ab_F D cl ty ts wd s) (hXF : ab_XF base s s.heap) (hRC : R.cells = MC ∧ R.slots = MS)
    {i : Nat} {y : MethodName} {cc' : ByteArray} {nL' fr' lo' MC' MS' n : Nat} {ret' : Option FieldType} {hh : List (Nat × Nat × Nat × Nat)} {Tr : ATr} (hM : ab_ConW l D cl ty ts base wd y cc' nL' ret' hh fr' lo' MC' MS' Tr)
    (w1 : Jvm.Cond.methodLink own i y ∈ wd) (w2 : Jvm.Cond.static y ∈ wd) (w4 : Jvm.Cond.initialized y.cls ∈ wd) (w5 : Jvm.Cond.codeWith y cc' nL' ret' hh ∈ wd)
    (hd : y.cls ≠ "java/lang/invoke/MethodHandle" ∧ y.cls ≠ "java/lang/invoke/VarHandle" ∧ (parseMethodDescriptor y.desc).map (fun d => d.parameters.length) = some n) (hR' : fr' + 1 ≤ R.frames ∧ 8 + (nL' + 11) + lo' ≤ R.locals) :
    ab_TC1 p l e R s m args below meth c D cl ty ts base nL MC MS QQ cc i (2, 0, n, MC', MS', Tr) := by
  intro pc ls as r h k z Kc hdc hlen hsz hk hz hrv hTr hcont H locs lsA hR hS hL hk0 hz0
  have hst : ((as.reverse ++ r).map ab_v) = (as.map ab_v).reverse ++ r.map ab_v := by simp
  rw [hst]
  have hn : (as.map ab_v).length = n := by simp; exact hlen
  refine ab_after (vx_runSW (cc := cc) (nL := nL) (Ts := []) (own := own) (As := as.map ab_v) (rest := r.map ab_v) (n := n) ⟨hx, hb, hml, hown, fun w hw => absurd hw List.not_mem_nil⟩ (hM _ h Kc hTr)
    (bytes := cc') (maxL := nL') (ret := ret') (hh := hh) ⟨⟨rfl, rfl, hR'.1, hR'.2, fun w hw a' U hW => by rw [List.mem_singleton.mp hw]; exact ab_warm hW (hwd _ w5) (hF.2.2 _ w5), List.mem_singleton.mpr rfl⟩, ab_hw hwd hF w5, ab_hw hwd hF w4, ⟨hd.1, hd.2.1⟩, fun sig hs => ?_, ab_hw hwd hF w1, ab_hw hwd hF w2⟩
    ⟨ab_PcB hwd, fun U hU hW => ⟨ab_pre hwd hR hF U hU hW, by rw [hU]; exact (hXF.kept hS.2.1).moved hW.alike⟩⟩ rfl hn hL.1 rfl ?_ hdc ⟨by rw [hRC.1]; exact hk, by rw [hRC.2]; exact hz⟩) hS hL hk hz hcont
  · have h2 := hd.2.2
    rw [hs] at h2
    exact (Option.some.inj h2).symm
  · exact Nat.le_trans (Nat.le_of_eq (ab_szs (m := m) r)) hsz
