/-! ===== what the words of a class give: its fields, the classes it makes, its constants ===== -/
def ab_fk (t : Nat) (ty : FieldType) : Prop := match t, ty with
  | 0, .int => True
  | 1, .boolean => True
  | 2, .long => True
  | 3, .object _ => True
  | 3, .array _ => True
  | _, _ => False
theorem ab_fk_n {t : Nat} {ty : FieldType} {v : AV} (h : ab_fk t ty) (hv : ab_fit t v) : narrow ty (ab_v v) = ab_v v ∧ fits ty (ab_v v) = true := by
  match t with
  | 0 =>
    cases ty <;> first | exact False.elim h | skip
    rcases v with x | r | x | d <;> first | exact False.elim hv | exact ⟨rfl, rfl⟩
  | 1 =>
    cases ty <;> first | exact False.elim h | skip
    rcases v with x | r | x | d <;> first | exact False.elim hv | skip
    rcases (show x = 0 ∨ x = 1 from hv) with rfl | rfl <;> exact ⟨rfl, rfl⟩
  | 2 =>
    cases ty <;> first | exact False.elim h | skip
    rcases v with x | r | x | d <;> first | exact False.elim hv | exact ⟨rfl, rfl⟩
  | 3 =>
    rcases v with x | r | x | d <;> first | exact False.elim hv | skip
    cases ty <;> first | exact False.elim h | skip
    · cases r <;> exact ⟨rfl, rfl⟩
    · cases r <;> exact ⟨rfl, rfl⟩
  | n + 4 => cases ty <;> exact False.elim h
def ab_wG (own : String) (cl : List vw_C) (wd : List Jvm.Cond) (i : Nat) (q : Nat × Nat) : Prop :=
  ∃ (C : String) (T : u_T) (N : Nat), cl[q.1]? = some (C, T, N) ∧ q.2 < N ∧ (∀ w ∈ u_ws C T N, w ∈ wd) ∧ (Jvm.Cond.fieldLink own i (T q.2).1 (T q.2).2.1 (T q.2).2.2.1 ∈ wd ∨ ∃ host, Jvm.Cond.fieldLinkNest own i (T q.2).1 (T q.2).2.1 (T q.2).2.2.1 host ∈ wd)
def ab_wP (own : String) (cl : List vw_C) (wd : List Jvm.Cond) (ini : Bool) (i : Nat) (q : Nat × Nat × Nat) : Prop :=
  ∃ (C : String) (T : u_T) (N : Nat) (tf : Nat → FieldType), cl[q.1]? = some (C, T, N) ∧ q.2.1 < N ∧ (∀ w ∈ u_ws C T N, w ∈ wd) ∧ (∀ k, k < N → parseFieldDescriptor (T k).2.2.1 = some (tf k)) ∧ (∀ a, a < N → ∀ b, b < N → a ≠ b → (T a).2.1 ≠ (T b).2.1) ∧ ab_fk q.2.2 (tf q.2.1) ∧
    (((T q.2.1).2.2.2 = false ∧ (Jvm.Cond.fieldLink own i (T q.2.1).1 (T q.2.1).2.1 (T q.2.1).2.2.1 ∈ wd ∨ ∃ host, Jvm.Cond.fieldLinkNest own i (T q.2.1).1 (T q.2.1).2.1 (T q.2.1).2.2.1 host ∈ wd)) ∨
     ((T q.2.1).2.2.2 = true ∧ ini = true ∧ (T q.2.1).1 = own ∧ Jvm.Cond.fieldLink own i (T q.2.1).1 (T q.2.1).2.1 (T q.2.1).2.2.1 ∈ wd))
def ab_wN (own : String) (cl : List vw_C) (wd : List Jvm.Cond) (i : Nat) (q : Nat × List AV) : Prop :=
  ∃ (C : String) (T : u_T) (tf : Nat → FieldType), cl[q.1]? = some (C, T, q.2.length) ∧ (∀ w ∈ u_ws C T q.2.length, w ∈ wd) ∧ (∀ k, k < q.2.length → parseFieldDescriptor (T k).2.2.1 = some (tf k)) ∧ Jvm.Cond.classLink own i C ∈ wd ∧ Jvm.Cond.instantiable C q.2.length ∈ wd ∧ Jvm.Cond.initialized C ∈ wd ∧ ∀ j, j < q.2.length → defaultValue (tf j) = vp_V (q.2.map ab_v) j
def ab_wL (own : String) (wd : List Jvm.Cond) (i : Nat) (v : AV) : Prop := match v with
  | .inl v => Jvm.Cond.constant own i (Int32.ofInt v) ∈ wd
  | .inr (.inr (.inr d)) => Jvm.Cond.constantDouble own i d ∈ wd
  | .inr (.inr (.inl v)) => Jvm.Cond.constantLong own i (Int64.ofInt v) ∈ wd
  | _ => False
def ab_wA (own : String) (wd : List Jvm.Cond) (i q : Nat) : Prop := Jvm.Cond.classLink own i (if q = 0 then "[I" else "[[I") ∈ wd
/-- the tables of a class are what its words say -/
def ab_Tb (own : String) (cl : List vw_C) (wd : List Jvm.Cond) (ini : Bool) (tb : ATb) : Prop :=
  (∀ i q, tb.1 i = some q → ab_wG own cl wd i q) ∧ (∀ i q, tb.2.1 i = some q → ab_wP own cl wd ini i q) ∧ (∀ i q, tb.2.2.1 i = some q → ab_wN own cl wd i q) ∧ (∀ i v, tb.2.2.2.1 i = some v → ab_wL own wd i v) ∧ (∀ i v, tb.2.2.2.2 i = some v → ab_wA own wd i v)
section ABW
variable {p : Program} {l : Launch} {e : Env} {R : Room} {s : State} {m : MethodId} {args : Array Value} {below : List Frame} {meth : Method} {c : Code}
variable {D : va_G} {cl : List vw_C} {ty : Nat → ClassId} {ts : List Nat} {base : Nat} {wd : List Jvm.Cond} {cc : ByteArray} {own : String} {ini : Bool} {tb : ATb}
theorem ab_P1 {q : Nat × va_E} {H : Heap} (h : va_at D cl q H) : va_P D cl [q] H := by
  intro k x hx
  cases k with
  | zero => cases hx; exact h
  | succ k => cases hx
theorem ab_tg_of (hx : p.tables.exec = Jvm.exec) (hb : c.code = cc) (hown : s.vm.findClass own = some m.cls) (hwd : ∀ w ∈ wd, ab_ok w = true) (hF : ab_F D cl ty ts wd s) (h : ab_Tb own cl wd ini tb) : ab_TG p l e R s m args below meth c D cl cc tb.1 := by
  intro i q hq pc H locs cells slots Q ls rest a fs v hd hat hv kk
  obtain ⟨C, T, N, hcl, hk, hin, hl⟩ := h.1 i q hq
  have hK : va_K D cl [] s := ⟨hF.1, fun k q h => by simp at h⟩
  rcases hl with hl | ⟨host, hl⟩
  · exact va_get (Ts := wd) hx hb (fun w hw => ab_hw hwd hF hw) hin hown hK (ab_P1 hat) 0 rfl hcl q.2 hk (ab_hw hwd hF hl) (fun _ h9 => h9) hv hd kk
  · exact va_getN (Ts := wd) hx hb (fun w hw => ab_hw hwd hF hw) hin hown hK (ab_P1 hat) 0 rfl hcl q.2 hk (ab_hw hwd hF hl) (fun _ h9 => h9) hv hd kk
theorem ab_tp_of (hx : p.tables.exec = Jvm.exec) (hb : c.code = cc) (hown : s.vm.findClass own = some m.cls) (hini : ini = true → meth.name = "<init>") (hwd : ∀ w ∈ wd, ab_ok w = true) (hF : ab_F D cl ty ts wd s) (h : ab_Tb own cl wd ini tb) : ab_TP p l e R s m args below meth c D cl cc tb.2.1 := by
  intro i q hq pc H locs cells slots Q ls rest a fs v hd hat hlt hfit kk
  obtain ⟨C, T, N, tf, hcl, hk, hin, hty, hnm, hkd, hl⟩ := h.2.1 i q hq
  have hK : va_K D cl [] s := ⟨hF.1, fun k q h => by simp at h⟩
  have hts : ∀ w ∈ wd, w.before args s = true := fun w hw => ab_hw hwd hF hw
  have hap := va_apart (own := own) hts hin tf hty hnm hK hcl
  obtain ⟨r, h1, cell, q1, q2, q3, q4⟩ := hat
  have hr : r = (C, T, N) := Option.some.inj (h1.symm.trans hcl)
  subst hr
  obtain ⟨hS, hfc, kC, hkC, hkind⟩ := hF.1 q.1 _ hcl
  obtain ⟨cf, kf, fi, f, hi, hsl⟩ := hS q.2.1 hk
  have hlay := hts _ (hin _ (u_in_lay hk))
  unfold u_lay at hlay
  have hst := (u_facts hfc hkC (u_lays hts hin hk) hi).1
  obtain ⟨hn, hft⟩ := ab_fk_n hkd hfit
  have fin : ∀ (H' : Heap), H'[a]? = some (cell.setSlot f.slot (ab_v v)) → va_at D cl (a, .inr (q.1, fs.set q.2.1 (ab_v v))) H' := by
    intro H' e1
    rw [hsl] at e1
    exact ⟨_, hcl, t_OB.to (V := updV (vp_V fs) q.2.1 (ab_v v)) ⟨_, e1, q2, q3, t_set q4 hap hk (ab_v v)⟩ (fun j _ => vp_updV_set hlt (ab_v v) j)⟩
  rcases hl with ⟨hf, hl⟩ | ⟨hf, hi2, hdecl, hl⟩
  · rw [if_neg (by rw [hf]; decide)] at hlay
    have h6 := u_store hfc hkC hkind hlay hi (hty _ hk) hn hft
    rcases hl with hl | ⟨host, hl⟩
    · exact W.putK hx hb (f := f) ⟨hown, ab_hw hwd hF hl, ⟨_, _, _, hi⟩, hst⟩ (by rw [q2]; exact h6) q1 q3 (by rw [hsl]; exact k2_hasslot (q4 _ hk)) rfl rfl hd fun H' e1 e2 e3 => kk H' _ (fin H' e1) e2 e3
    · exact va_WputK hx hb (f := f) hown (ab_hw hwd hF hl) hi hst (by rw [q2]; exact h6) q1 q3 (by rw [hsl]; exact k2_hasslot (q4 _ hk)) rfl rfl hd fun H' e1 e2 e3 => kk H' _ (fin H' e1) e2 e3
  · rw [if_pos hf] at hlay
    have hcf : m.cls = cf := by
      obtain ⟨_, _, c', _, _, _, -, -, hf', -, -, -, hown2, -⟩ := Cond.laysFinal_spec hlay
      have e1 : c' = cf := by have := hi.symm.trans hf'; simp at this; exact this.1.symm
      rw [hdecl] at hown2
      rw [← e1]; exact Option.some.inj (hown.symm.trans hown2)
    have h6 := u_fits hfc hkC hkind (Or.inr hlay) hi (hty _ hk) hn hft
    exact W.putFinK hx hb hown (ab_hw hwd hF hl) hi hst hcf (hini hi2) (by rw [q2]; exact h6) q1 q3 (by rw [hsl]; exact k2_hasslot (q4 _ hk)) rfl rfl hd fun H' e1 e2 e3 => kk H' _ (fin H' e1) e2 e3
theorem ab_tn_of (hx : p.tables.exec = Jvm.exec) (hb : c.code = cc) (hown : s.vm.findClass own = some m.cls) (hwd : ∀ w ∈ wd, ab_ok w = true) (hF : ab_F D cl ty ts wd s) (h : ab_Tb own cl wd ini tb) : ab_TN p l e R s m args below meth c D cl cc tb.2.2.1 := by
  intro i q hq pc H locs cells slots Q ls rest hd hc1 hc2 kk
  obtain ⟨C, T, tf, hcl, hin, hty, w1, w2, w3, hdf⟩ := h.2.2.1 i q hq
  have hts : ∀ w ∈ wd, w.before args s = true := fun w hw => ab_hw hwd hF hw
  have hKn := hF.1 q.1 _ hcl
  refine W.newcK hx hb hown (ab_hw hwd hF w1) (ab_hw hwd hF w2) (ab_hw hwd hF w3) rfl hd hc1 hc2 hKn.2.1 rfl fun H1 kC hkC e1 z1 o1 => ?_
  exact kk H1 ⟨_, hcl, (u_born tf hts hin hKn hkC e1 hty).to hdf⟩ z1 o1
theorem ab_tl_of (hx : p.tables.exec = Jvm.exec) (hb : c.code = cc) (hown : s.vm.findClass own = some m.cls) (hwd : ∀ w ∈ wd, ab_ok w = true) (hF : ab_F D cl ty ts wd s) (h : ab_Tb own cl wd ini tb) : ab_TL p l e R s m args below meth c cc tb.2.2.2.1 := by
  refine ⟨fun i v hv pc H locs cells slots Q ls rest hd kk => ?_, fun i v hv pc H locs cells slots Q ls rest hd kk => ?_⟩
  · have hw : ab_wL own wd i (.inl v) := h.2.2.2.1 i _ hv
    exact lv_ldc hx hb hown (ab_hw hwd hF hw) hd kk
  · have hw : ab_wL own wd i (.inr (.inr v)) := h.2.2.2.1 i _ hv
    cases v with
    | inl v => exact lv_ldc2 hx hb hown (ab_hw hwd hF hw) hd kk
    | inr d => exact lv_ldc2d hx hb hown (ab_hw hwd hF hw) hd kk
theorem ab_ta_of {cc : ByteArray} (hown : s.vm.findClass own = some m.cls) (hwd : ∀ w ∈ wd, ab_ok w = true) (hF : ab_F D cl ty ts wd s) (h : ab_Tb own cl wd ini tb) : ab_TA s m args cc tb.2.2.2.2 := fun i q hq => ⟨own, hown, ab_hw hwd hF (h.2.2.2.2 i q hq)⟩
end ABW
theorem ab_lgs (as : List AV) : (lg_sl (as.map ab_v)).length = ab_sz as := by
  induction as with
  | nil => rfl
  | cons v l ih =>
    have e : lg_sl ((v :: l).map ab_v) = (if (ab_v v).category = 2 then [Slot.val (ab_v v), .second] else [.val (ab_v v)]) ++ lg_sl (l.map ab_v) := by simp [lg_sl]
    rw [e, List.length_append, ih, ab_cat]
    simp only [ab_sz]
    cases ab_2 v <;> rfl
/-- a method's contract out of a walk of its body; its class may be one that the tables override, where the method is no native -/
theorem ab_ofW {l : Launch} {y : MethodName} {ws ws' : List Jvm.Cond} {rm : Room} {Pc : Array Value → State → Prop} {Qc : Array Value → State → Outcome → State → Prop} {mc ms : Nat} {free : Addr → Prop} {cc : ByteArray} {maxL : Nat} {ret : Option FieldType}
    (hy : plainFor y = true) (hw : ws = Jvm.Cond.code y cc maxL ret :: ws')
    (body : ∀ p e s m args below meth c s₁, BodyLoose p l y (headSpec ws rm) cc maxL ret e s m args below meth c s₁ → c.maxLocals = maxL → Pc args s →
      W p l e (headSpec ws rm).room s m args below meth c s.heap [] 0 0 (MQ below Qc args s mc ms free) (entryFrame m args maxL)) : Met l y ws rm Pc Qc mc ms free := by
  refine MetFree.of_bodySF (code := cc) (maxLocals := maxL) (ret := ret) hy ?_ ?_
  · intro args s m h hn
    obtain ⟨meth, c, h1, h2, h3, h4, h5, h6, -, -⟩ := Cond.code_spec hn (atoms_spec (ws := ws) h _ (by rw [hw]; exact List.mem_cons_self))
    exact ⟨meth, c, h1, h2, h3, h4, h5, h6⟩
  · intro p e s m args below meth c s₁ B hml hP _
    have hh0 : s₁.heap = s.heap := by rw [B.state]; rfl
    obtain ⟨t, a1, o, b1, b2, b3⟩ := body p e s m args below meth c s₁ B hml hP s₁ hh0 (Stand.of_body B)
    exact ⟨t, o, a1, b1, b2, ⟨b3.1, b3.2⟩⟩
/-- where a method's calls are looked at -/
def ab_Cx (D : va_G) (cl : List vw_C) (ty : Nat → ClassId) (ts : List Nat) (wd : List Jvm.Cond) (own : String) (cc : ByteArray) (nL fr lo MC MS : Nat) (p : Program) (R : Room) (s : State) (m : MethodId) (c : Code) : Prop :=
  p.tables.exec = Jvm.exec ∧ c.code = cc ∧ c.maxLocals = nL ∧ s.vm.findClass own = some m.cls ∧ ab_F D cl ty ts wd s ∧ R = ({ frames := fr, cells := MC, slots := MS, locals := lo } : Room)
/-- a text that meets its transformer gives the method's contract -/
theorem ab_con_of {l : Launch} {D : va_G} {cl : List vw_C} {ty : Nat → ClassId} {ts : List Nat} {base : Nat} {wd : List Jvm.Cond} {own : String} {y : MethodName} {cc : ByteArray} {nL fr lo MC MS rt : Nat} {ret : Option FieldType} {tb : ATb} {ini : Bool} {ca : Nat → Option ACS} {Tr : ATr}
    (hy : plainFor y = true) (hyo : y.cls = own) (hini : ini = true → y.name = "<init>") (hrt : ab_rk ret = rt) (hwd : ∀ w ∈ wd, ab_ok w = true) (htb : ab_Tb own cl wd ini tb) (hA : (∀ t, ab_at t ∈ ts → Jvm.Cond.arrayClass (newarray.typeOf t) ∈ wd) ∧ Jvm.Cond.arrayOver (.array .int) ∈ wd)
    (hmo : ∀ i q, ca i = some q → ab_mo q.2.2.2.2.2)
    (hC : ∀ (p : Program) (e : Env) (R : Room) (s : State) (m : MethodId) (args : Array Value) (below : List Frame) (meth : Method) (c : Code) (QQ : State → Prop), ab_Cx D cl ty ts wd own cc nL fr lo MC MS p R s m c → ab_TC p l e R s m args below meth c D cl ty ts base nL MC MS QQ cc ca)
    (hlen : ∀ as h K, Tr as h K → ab_sz as ≤ nL) (hsem : ab_Sem tb ts base cc ca rt nL MC MS (fun as => ab_en as nL) Tr) : ab_Con l D cl ty ts base wd y cc nL ret fr lo MC MS Tr := by
  intro as h K hTr
  refine ab_ofW (cc := cc) (maxL := nL) (ret := ret) hy rfl ?_
  intro p e s m args below meth c s₁ B hml hv
  obtain ⟨rfl, hR, hF⟩ := hv
  have hx := B.exec
  have hb := B.bytes
  have hr := B.returns
  have hown : s.vm.findClass own = some m.cls := by rw [← hyo]; exact findClass_of_methodNamed B.named
  have hlocks := B.notSynchronized
  have hin : meth.name = y.name := (name_of_methodNamed B.named B.method).1
  have hL := lv_entry (as.map ab_v) (n := nL) (by rw [ab_lgs]; exact hlen _ _ _ hTr)
  rw [lg_entry_eq]
  generalize (lg_sl (as.map ab_v) ++ List.replicate (nL - (lg_sl (as.map ab_v)).length) Slot.unset).toArray = lsA at hL ⊢
  have hL' : ab_L lsA nL (ab_en as nL) := ⟨hL.1, hL.2.1, Nat.le_of_eq (ab_en_len as nL (by rw [ab_lgs]; exact hlen _ _ _ hTr)), fun i v hg => by
    have := hL.2.2 _ (ab_en_g as nL 0 i v hg)
    simpa using this⟩
  have hTC := hC p e ({ frames := fr, cells := MC, slots := MS, locals := lo } : Room) s m (as.map ab_v).toArray below meth c (MQ below (ab_Q D cl ty ts base K) (as.map ab_v).toArray s MC MS (fun q => base ≤ q)) ⟨hx, hb, hml, hown, hF, rfl⟩
  have hV := hsem as h K hTr (ab_V p l e ({ frames := fr, cells := MC, slots := MS, locals := lo } : Room) s m (as.map ab_v).toArray below meth c D cl ty ts base nL MC MS (MQ below (ab_Q D cl ty ts base K) (as.map ab_v).toArray s MC MS (fun q => base ≤ q))) (fun stop n pc ls st h k z hs => by
    have hcl : ∀ pc ls st h k z, ab_step tb ts base cc ca rt MC MS K (ab_V p l e ({ frames := fr, cells := MC, slots := MS, locals := lo } : Room) s m (as.map ab_v).toArray below meth c D cl ty ts base nL MC MS (MQ below (ab_Q D cl ty ts base K) (as.map ab_v).toArray s MC MS (fun q => base ≤ q))) pc ls st h k z → ab_V p l e ({ frames := fr, cells := MC, slots := MS, locals := lo } : Room) s m (as.map ab_v).toArray below meth c D cl ty ts base nL MC MS (MQ below (ab_Q D cl ty ts base K) (as.map ab_v).toArray s MC MS (fun q => base ≤ q)) pc ls st h k z := by
      intro pc ls st h k z hs
      rw [ab_stp] at hs
      split at hs
      · rename_i ins len hd
        exact ab_sound hx hb hlocks (by rw [hr]; exact hrt) ⟨rfl, rfl⟩ (fun _ h => h) hF.2.1 (fun t ht => ab_hw hwd hF (hA.1 t ht)) (ab_tg_of hx hb hown hwd hF htb) (ab_tp_of hx hb hown (fun h => by rw [hin]; exact hini h) hwd hF htb) (ab_tn_of hx hb hown hwd hF htb) (ab_tl_of hx hb hown hwd hF htb) (ab_ta_of hown hwd hF htb) (ab_hw hwd hF hA.2) hTC hd hs
      · exact hs.elim
    exact hcl _ _ _ _ _ _ (ab_step_mo hmo (ab_wp_V hmo hcl stop n) hs))
  exact hV s.heap [] lsA hR va_S.rf hL' (Nat.zero_le _) (Nat.zero_le _)
