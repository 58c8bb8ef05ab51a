/-! ===== writing into a roof ===== -/
theorem ab_up_ap (h : AH) (a : Nat) (c : AC) (b : Nat) : ab_up h a c b = if b = a then some c else h b := rfl
/-- nothing but these cells has changed -/
def ab_fr (h h' : AH) (L : List Nat) : Prop := ∀ b, b ∉ L → h' b = h b
theorem ab_fr.rf {h : AH} {L : List Nat} : ab_fr h h L := fun _ _ => rfl
theorem ab_fr.up {h h' : AH} {L : List Nat} {a : Nat} {c : AC} (hf : ab_fr h h' L) (ha : a ∈ L) : ab_fr h (ab_up h' a c) L := by
  intro b hb
  rw [ab_up_ap, if_neg (fun e => hb (by rw [e]; exact ha))]
  exact hf b hb
theorem ab_fr.tr {h h1 h2 : AH} {L : List Nat} (h12 : ab_fr h h1 L) (h23 : ab_fr h1 h2 L) : ab_fr h h2 L := fun b hb => (h23 b hb).trans (h12 b hb)
theorem ab_fr.sub {h h1 : AH} {L L' : List Nat} (h12 : ab_fr h h1 L) (hs : ∀ b ∈ L, b ∈ L') : ab_fr h h1 L' := fun b hb => h12 b (fun q => hb (hs b q))
theorem nd10 {a n0 n1 n2 n3 n4 n5 n6 n7 n8 : Nat} (h : [a, n0, n1, n2, n3, n4, n5, n6, n7, n8].Nodup) : (¬ a = n0 ∧ ¬ n0 = a) ∧ (¬ a = n1 ∧ ¬ n1 = a) ∧ (¬ a = n2 ∧ ¬ n2 = a) ∧ (¬ a = n3 ∧ ¬ n3 = a) ∧ (¬ a = n4 ∧ ¬ n4 = a) ∧ (¬ a = n5 ∧ ¬ n5 = a) ∧ (¬ a = n6 ∧ ¬ n6 = a) ∧ (¬ a = n7 ∧ ¬ n7 = a) ∧ (¬ a = n8 ∧ ¬ n8 = a) ∧ (¬ n0 = n1 ∧ ¬ n1 = n0) ∧ (¬ n0 = n2 ∧ ¬ n2 = n0) ∧ (¬ n0 = n3 ∧ ¬ n3 = n0) ∧ (¬ n0 = n4 ∧ ¬ n4 = n0) ∧ (¬ n0 = n5 ∧ ¬ n5 = n0) ∧ (¬ n0 = n6 ∧ ¬ n6 = n0) ∧ (¬ n0 = n7 ∧ ¬ n7 = n0) ∧ (¬ n0 = n8 ∧ ¬ n8 = n0) ∧ (¬ n1 = n2 ∧ ¬ n2 = n1) ∧ (¬ n1 = n3 ∧ ¬ n3 = n1) ∧ (¬ n1 = n4 ∧ ¬ n4 = n1) ∧ (¬ n1 = n5 ∧ ¬ n5 = n1) ∧ (¬ n1 = n6 ∧ ¬ n6 = n1) ∧ (¬ n1 = n7 ∧ ¬ n7 = n1) ∧ (¬ n1 = n8 ∧ ¬ n8 = n1) ∧ (¬ n2 = n3 ∧ ¬ n3 = n2) ∧ (¬ n2 = n4 ∧ ¬ n4 = n2) ∧ (¬ n2 = n5 ∧ ¬ n5 = n2) ∧ (¬ n2 = n6 ∧ ¬ n6 = n2) ∧ (¬ n2 = n7 ∧ ¬ n7 = n2) ∧ (¬ n2 = n8 ∧ ¬ n8 = n2) ∧ (¬ n3 = n4 ∧ ¬ n4 = n3) ∧ (¬ n3 = n5 ∧ ¬ n5 = n3) ∧ (¬ n3 = n6 ∧ ¬ n6 = n3) ∧ (¬ n3 = n7 ∧ ¬ n7 = n3) ∧ (¬ n3 = n8 ∧ ¬ n8 = n3) ∧ (¬ n4 = n5 ∧ ¬ n5 = n4) ∧ (¬ n4 = n6 ∧ ¬ n6 = n4) ∧ (¬ n4 = n7 ∧ ¬ n7 = n4) ∧ (¬ n4 = n8 ∧ ¬ n8 = n4) ∧ (¬ n5 = n6 ∧ ¬ n6 = n5) ∧ (¬ n5 = n7 ∧ ¬ n7 = n5) ∧ (¬ n5 = n8 ∧ ¬ n8 = n5) ∧ (¬ n6 = n7 ∧ ¬ n7 = n6) ∧ (¬ n6 = n8 ∧ ¬ n8 = n6) ∧ (¬ n7 = n8 ∧ ¬ n8 = n7) := by
  simp only [List.nodup_cons, List.mem_cons, List.not_mem_nil, or_false, not_or, not_false_eq_true, List.nodup_nil, and_true] at h
  obtain ⟨⟨h0_1, h0_2, h0_3, h0_4, h0_5, h0_6, h0_7, h0_8, h0_9⟩, ⟨h1_2, h1_3, h1_4, h1_5, h1_6, h1_7, h1_8, h1_9⟩, ⟨h2_3, h2_4, h2_5, h2_6, h2_7, h2_8, h2_9⟩, ⟨h3_4, h3_5, h3_6, h3_7, h3_8, h3_9⟩, ⟨h4_5, h4_6, h4_7, h4_8, h4_9⟩, ⟨h5_6, h5_7, h5_8, h5_9⟩, ⟨h6_7, h6_8, h6_9⟩, ⟨h7_8, h7_9⟩, h8_9⟩ := h
  exact ⟨⟨h0_1, fun e => h0_1 e.symm⟩, ⟨h0_2, fun e => h0_2 e.symm⟩, ⟨h0_3, fun e => h0_3 e.symm⟩, ⟨h0_4, fun e => h0_4 e.symm⟩, ⟨h0_5, fun e => h0_5 e.symm⟩, ⟨h0_6, fun e => h0_6 e.symm⟩, ⟨h0_7, fun e => h0_7 e.symm⟩, ⟨h0_8, fun e => h0_8 e.symm⟩, ⟨h0_9, fun e => h0_9 e.symm⟩, ⟨h1_2, fun e => h1_2 e.symm⟩, ⟨h1_3, fun e => h1_3 e.symm⟩, ⟨h1_4, fun e => h1_4 e.symm⟩, ⟨h1_5, fun e => h1_5 e.symm⟩, ⟨h1_6, fun e => h1_6 e.symm⟩, ⟨h1_7, fun e => h1_7 e.symm⟩, ⟨h1_8, fun e => h1_8 e.symm⟩, ⟨h1_9, fun e => h1_9 e.symm⟩, ⟨h2_3, fun e => h2_3 e.symm⟩, ⟨h2_4, fun e => h2_4 e.symm⟩, ⟨h2_5, fun e => h2_5 e.symm⟩, ⟨h2_6, fun e => h2_6 e.symm⟩, ⟨h2_7, fun e => h2_7 e.symm⟩, ⟨h2_8, fun e => h2_8 e.symm⟩, ⟨h2_9, fun e => h2_9 e.symm⟩, ⟨h3_4, fun e => h3_4 e.symm⟩, ⟨h3_5, fun e => h3_5 e.symm⟩, ⟨h3_6, fun e => h3_6 e.symm⟩, ⟨h3_7, fun e => h3_7 e.symm⟩, ⟨h3_8, fun e => h3_8 e.symm⟩, ⟨h3_9, fun e => h3_9 e.symm⟩, ⟨h4_5, fun e => h4_5 e.symm⟩, ⟨h4_6, fun e => h4_6 e.symm⟩, ⟨h4_7, fun e => h4_7 e.symm⟩, ⟨h4_8, fun e => h4_8 e.symm⟩, ⟨h4_9, fun e => h4_9 e.symm⟩, ⟨h5_6, fun e => h5_6 e.symm⟩, ⟨h5_7, fun e => h5_7 e.symm⟩, ⟨h5_8, fun e => h5_8 e.symm⟩, ⟨h5_9, fun e => h5_9 e.symm⟩, ⟨h6_7, fun e => h6_7 e.symm⟩, ⟨h6_8, fun e => h6_8 e.symm⟩, ⟨h6_9, fun e => h6_9 e.symm⟩, ⟨h7_8, fun e => h7_8 e.symm⟩, ⟨h7_9, fun e => h7_9 e.symm⟩, ⟨h8_9, fun e => h8_9 e.symm⟩⟩
abbrev RS.s_num (S : RS) (v : Int → Int) : RS := (v, S.rot, S.row, S.frm, S.wid, S.nai, S.crk, S.onr, S.goe, S.day, S.laid, S.there, S.blown)
abbrev RS.s_rot (S : RS) (v : Int → Int) : RS := (S.num, v, S.row, S.frm, S.wid, S.nai, S.crk, S.onr, S.goe, S.day, S.laid, S.there, S.blown)
abbrev RS.s_row (S : RS) (v : Int → Int) : RS := (S.num, S.rot, v, S.frm, S.wid, S.nai, S.crk, S.onr, S.goe, S.day, S.laid, S.there, S.blown)
abbrev RS.s_frm (S : RS) (v : Int → Int) : RS := (S.num, S.rot, S.row, v, S.wid, S.nai, S.crk, S.onr, S.goe, S.day, S.laid, S.there, S.blown)
abbrev RS.s_wid (S : RS) (v : Int → Int) : RS := (S.num, S.rot, S.row, S.frm, v, S.nai, S.crk, S.onr, S.goe, S.day, S.laid, S.there, S.blown)
abbrev RS.s_nai (S : RS) (v : Int → Int) : RS := (S.num, S.rot, S.row, S.frm, S.wid, v, S.crk, S.onr, S.goe, S.day, S.laid, S.there, S.blown)
abbrev RS.s_crk (S : RS) (v : Int → Int) : RS := (S.num, S.rot, S.row, S.frm, S.wid, S.nai, v, S.onr, S.goe, S.day, S.laid, S.there, S.blown)
abbrev RS.s_onr (S : RS) (v : Int → Int) : RS := (S.num, S.rot, S.row, S.frm, S.wid, S.nai, S.crk, v, S.goe, S.day, S.laid, S.there, S.blown)
abbrev RS.s_goe (S : RS) (v : Int → Int) : RS := (S.num, S.rot, S.row, S.frm, S.wid, S.nai, S.crk, S.onr, v, S.day, S.laid, S.there, S.blown)
abbrev RS.s_day (S : RS) (v : Int) : RS := (S.num, S.rot, S.row, S.frm, S.wid, S.nai, S.crk, S.onr, S.goe, v, S.laid, S.there, S.blown)
abbrev RS.s_laid (S : RS) (v : Int) : RS := (S.num, S.rot, S.row, S.frm, S.wid, S.nai, S.crk, S.onr, S.goe, S.day, v, S.there, S.blown)
abbrev RS.s_there (S : RS) (v : Int) : RS := (S.num, S.rot, S.row, S.frm, S.wid, S.nai, S.crk, S.onr, S.goe, S.day, S.laid, v, S.blown)
abbrev RS.s_blown (S : RS) (v : Int) : RS := (S.num, S.rot, S.row, S.frm, S.wid, S.nai, S.crk, S.onr, S.goe, S.day, S.laid, S.there, v)
theorem rc_num {h : AH} {a n0 n1 n2 n3 n4 n5 n6 n7 n8 : Nat} {S : RS} (hc : roofCells h a [n0, n1, n2, n3, n4, n5, n6, n7, n8] S) (v : Int → Int) : roofCells (ab_up h n0 (.inr (.inl (0, 96, v)))) a [n0, n1, n2, n3, n4, n5, n6, n7, n8] (S.s_num v) := by
  obtain ⟨m0, m1, m2, m3, m4, m5, m6, m7, m8, e, nd, c, c0, c1, c2, c3, c4, c5, c6, c7, c8⟩ := hc
  simp only [List.cons.injEq, and_true] at e
  obtain ⟨rfl, rfl, rfl, rfl, rfl, rfl, rfl, rfl, rfl⟩ := e
  have nd' := nd10 nd
  refine ⟨n0, n1, n2, n3, n4, n5, n6, n7, n8, rfl, nd, ?_, ?_, ?_, ?_, ?_, ?_, ?_, ?_, ?_, ?_⟩ <;> simp only [ab_up_ap, nd', if_true, if_false, c, c0, c1, c2, c3, c4, c5, c6, c7, c8]
theorem rc_rot {h : AH} {a n0 n1 n2 n3 n4 n5 n6 n7 n8 : Nat} {S : RS} (hc : roofCells h a [n0, n1, n2, n3, n4, n5, n6, n7, n8] S) (v : Int → Int) : roofCells (ab_up h n1 (.inr (.inl (0, 96, v)))) a [n0, n1, n2, n3, n4, n5, n6, n7, n8] (S.s_rot v) := by
  obtain ⟨m0, m1, m2, m3, m4, m5, m6, m7, m8, e, nd, c, c0, c1, c2, c3, c4, c5, c6, c7, c8⟩ := hc
  simp only [List.cons.injEq, and_true] at e
  obtain ⟨rfl, rfl, rfl, rfl, rfl, rfl, rfl, rfl, rfl⟩ := e
  have nd' := nd10 nd
  refine ⟨n0, n1, n2, n3, n4, n5, n6, n7, n8, rfl, nd, ?_, ?_, ?_, ?_, ?_, ?_, ?_, ?_, ?_, ?_⟩ <;> simp only [ab_up_ap, nd', if_true, if_false, c, c0, c1, c2, c3, c4, c5, c6, c7, c8]
theorem rc_row {h : AH} {a n0 n1 n2 n3 n4 n5 n6 n7 n8 : Nat} {S : RS} (hc : roofCells h a [n0, n1, n2, n3, n4, n5, n6, n7, n8] S) (v : Int → Int) : roofCells (ab_up h n2 (.inr (.inl (0, 200, v)))) a [n0, n1, n2, n3, n4, n5, n6, n7, n8] (S.s_row v) := by
  obtain ⟨m0, m1, m2, m3, m4, m5, m6, m7, m8, e, nd, c, c0, c1, c2, c3, c4, c5, c6, c7, c8⟩ := hc
  simp only [List.cons.injEq, and_true] at e
  obtain ⟨rfl, rfl, rfl, rfl, rfl, rfl, rfl, rfl, rfl⟩ := e
  have nd' := nd10 nd
  refine ⟨n0, n1, n2, n3, n4, n5, n6, n7, n8, rfl, nd, ?_, ?_, ?_, ?_, ?_, ?_, ?_, ?_, ?_, ?_⟩ <;> simp only [ab_up_ap, nd', if_true, if_false, c, c0, c1, c2, c3, c4, c5, c6, c7, c8]
theorem rc_frm {h : AH} {a n0 n1 n2 n3 n4 n5 n6 n7 n8 : Nat} {S : RS} (hc : roofCells h a [n0, n1, n2, n3, n4, n5, n6, n7, n8] S) (v : Int → Int) : roofCells (ab_up h n3 (.inr (.inl (0, 200, v)))) a [n0, n1, n2, n3, n4, n5, n6, n7, n8] (S.s_frm v) := by
  obtain ⟨m0, m1, m2, m3, m4, m5, m6, m7, m8, e, nd, c, c0, c1, c2, c3, c4, c5, c6, c7, c8⟩ := hc
  simp only [List.cons.injEq, and_true] at e
  obtain ⟨rfl, rfl, rfl, rfl, rfl, rfl, rfl, rfl, rfl⟩ := e
  have nd' := nd10 nd
  refine ⟨n0, n1, n2, n3, n4, n5, n6, n7, n8, rfl, nd, ?_, ?_, ?_, ?_, ?_, ?_, ?_, ?_, ?_, ?_⟩ <;> simp only [ab_up_ap, nd', if_true, if_false, c, c0, c1, c2, c3, c4, c5, c6, c7, c8]
theorem rc_wid {h : AH} {a n0 n1 n2 n3 n4 n5 n6 n7 n8 : Nat} {S : RS} (hc : roofCells h a [n0, n1, n2, n3, n4, n5, n6, n7, n8] S) (v : Int → Int) : roofCells (ab_up h n4 (.inr (.inl (0, 200, v)))) a [n0, n1, n2, n3, n4, n5, n6, n7, n8] (S.s_wid v) := by
  obtain ⟨m0, m1, m2, m3, m4, m5, m6, m7, m8, e, nd, c, c0, c1, c2, c3, c4, c5, c6, c7, c8⟩ := hc
  simp only [List.cons.injEq, and_true] at e
  obtain ⟨rfl, rfl, rfl, rfl, rfl, rfl, rfl, rfl, rfl⟩ := e
  have nd' := nd10 nd
  refine ⟨n0, n1, n2, n3, n4, n5, n6, n7, n8, rfl, nd, ?_, ?_, ?_, ?_, ?_, ?_, ?_, ?_, ?_, ?_⟩ <;> simp only [ab_up_ap, nd', if_true, if_false, c, c0, c1, c2, c3, c4, c5, c6, c7, c8]
theorem rc_nai {h : AH} {a n0 n1 n2 n3 n4 n5 n6 n7 n8 : Nat} {S : RS} (hc : roofCells h a [n0, n1, n2, n3, n4, n5, n6, n7, n8] S) (v : Int → Int) : roofCells (ab_up h n5 (.inr (.inl (0, 200, v)))) a [n0, n1, n2, n3, n4, n5, n6, n7, n8] (S.s_nai v) := by
  obtain ⟨m0, m1, m2, m3, m4, m5, m6, m7, m8, e, nd, c, c0, c1, c2, c3, c4, c5, c6, c7, c8⟩ := hc
  simp only [List.cons.injEq, and_true] at e
  obtain ⟨rfl, rfl, rfl, rfl, rfl, rfl, rfl, rfl, rfl⟩ := e
  have nd' := nd10 nd
  refine ⟨n0, n1, n2, n3, n4, n5, n6, n7, n8, rfl, nd, ?_, ?_, ?_, ?_, ?_, ?_, ?_, ?_, ?_, ?_⟩ <;> simp only [ab_up_ap, nd', if_true, if_false, c, c0, c1, c2, c3, c4, c5, c6, c7, c8]
theorem rc_crk {h : AH} {a n0 n1 n2 n3 n4 n5 n6 n7 n8 : Nat} {S : RS} (hc : roofCells h a [n0, n1, n2, n3, n4, n5, n6, n7, n8] S) (v : Int → Int) : roofCells (ab_up h n6 (.inr (.inl (1, 200, v)))) a [n0, n1, n2, n3, n4, n5, n6, n7, n8] (S.s_crk v) := by
  obtain ⟨m0, m1, m2, m3, m4, m5, m6, m7, m8, e, nd, c, c0, c1, c2, c3, c4, c5, c6, c7, c8⟩ := hc
  simp only [List.cons.injEq, and_true] at e
  obtain ⟨rfl, rfl, rfl, rfl, rfl, rfl, rfl, rfl, rfl⟩ := e
  have nd' := nd10 nd
  refine ⟨n0, n1, n2, n3, n4, n5, n6, n7, n8, rfl, nd, ?_, ?_, ?_, ?_, ?_, ?_, ?_, ?_, ?_, ?_⟩ <;> simp only [ab_up_ap, nd', if_true, if_false, c, c0, c1, c2, c3, c4, c5, c6, c7, c8]
theorem rc_onr {h : AH} {a n0 n1 n2 n3 n4 n5 n6 n7 n8 : Nat} {S : RS} (hc : roofCells h a [n0, n1, n2, n3, n4, n5, n6, n7, n8] S) (v : Int → Int) : roofCells (ab_up h n7 (.inr (.inl (1, 200, v)))) a [n0, n1, n2, n3, n4, n5, n6, n7, n8] (S.s_onr v) := by
  obtain ⟨m0, m1, m2, m3, m4, m5, m6, m7, m8, e, nd, c, c0, c1, c2, c3, c4, c5, c6, c7, c8⟩ := hc
  simp only [List.cons.injEq, and_true] at e
  obtain ⟨rfl, rfl, rfl, rfl, rfl, rfl, rfl, rfl, rfl⟩ := e
  have nd' := nd10 nd
  refine ⟨n0, n1, n2, n3, n4, n5, n6, n7, n8, rfl, nd, ?_, ?_, ?_, ?_, ?_, ?_, ?_, ?_, ?_, ?_⟩ <;> simp only [ab_up_ap, nd', if_true, if_false, c, c0, c1, c2, c3, c4, c5, c6, c7, c8]
theorem rc_goe {h : AH} {a n0 n1 n2 n3 n4 n5 n6 n7 n8 : Nat} {S : RS} (hc : roofCells h a [n0, n1, n2, n3, n4, n5, n6, n7, n8] S) (v : Int → Int) : roofCells (ab_up h n8 (.inr (.inl (1, 200, v)))) a [n0, n1, n2, n3, n4, n5, n6, n7, n8] (S.s_goe v) := by
  obtain ⟨m0, m1, m2, m3, m4, m5, m6, m7, m8, e, nd, c, c0, c1, c2, c3, c4, c5, c6, c7, c8⟩ := hc
  simp only [List.cons.injEq, and_true] at e
  obtain ⟨rfl, rfl, rfl, rfl, rfl, rfl, rfl, rfl, rfl⟩ := e
  have nd' := nd10 nd
  refine ⟨n0, n1, n2, n3, n4, n5, n6, n7, n8, rfl, nd, ?_, ?_, ?_, ?_, ?_, ?_, ?_, ?_, ?_, ?_⟩ <;> simp only [ab_up_ap, nd', if_true, if_false, c, c0, c1, c2, c3, c4, c5, c6, c7, c8]
theorem rc_day {h : AH} {a n0 n1 n2 n3 n4 n5 n6 n7 n8 : Nat} {S : RS} (hc : roofCells h a [n0, n1, n2, n3, n4, n5, n6, n7, n8] S) (v : Int) : roofCells (ab_up h a (.inl (1, [.inr (.inl (some n0)), .inr (.inl (some n1)), .inr (.inl (some n2)), .inr (.inl (some n3)), .inr (.inl (some n4)), .inr (.inl (some n5)), .inr (.inl (some n6)), .inr (.inl (some n7)), .inr (.inl (some n8)), .inl v, .inl S.laid, .inl S.there, .inl S.blown]))) a [n0, n1, n2, n3, n4, n5, n6, n7, n8] (S.s_day v) := by
  obtain ⟨m0, m1, m2, m3, m4, m5, m6, m7, m8, e, nd, c, c0, c1, c2, c3, c4, c5, c6, c7, c8⟩ := hc
  simp only [List.cons.injEq, and_true] at e
  obtain ⟨rfl, rfl, rfl, rfl, rfl, rfl, rfl, rfl, rfl⟩ := e
  have nd' := nd10 nd
  refine ⟨n0, n1, n2, n3, n4, n5, n6, n7, n8, rfl, nd, ?_, ?_, ?_, ?_, ?_, ?_, ?_, ?_, ?_, ?_⟩ <;> simp only [ab_up_ap, nd', if_true, if_false, c, c0, c1, c2, c3, c4, c5, c6, c7, c8]
theorem rc_laid {h : AH} {a n0 n1 n2 n3 n4 n5 n6 n7 n8 : Nat} {S : RS} (hc : roofCells h a [n0, n1, n2, n3, n4, n5, n6, n7, n8] S) (v : Int) : roofCells (ab_up h a (.inl (1, [.inr (.inl (some n0)), .inr (.inl (some n1)), .inr (.inl (some n2)), .inr (.inl (some n3)), .inr (.inl (some n4)), .inr (.inl (some n5)), .inr (.inl (some n6)), .inr (.inl (some n7)), .inr (.inl (some n8)), .inl S.day, .inl v, .inl S.there, .inl S.blown]))) a [n0, n1, n2, n3, n4, n5, n6, n7, n8] (S.s_laid v) := by
  obtain ⟨m0, m1, m2, m3, m4, m5, m6, m7, m8, e, nd, c, c0, c1, c2, c3, c4, c5, c6, c7, c8⟩ := hc
  simp only [List.cons.injEq, and_true] at e
  obtain ⟨rfl, rfl, rfl, rfl, rfl, rfl, rfl, rfl, rfl⟩ := e
  have nd' := nd10 nd
  refine ⟨n0, n1, n2, n3, n4, n5, n6, n7, n8, rfl, nd, ?_, ?_, ?_, ?_, ?_, ?_, ?_, ?_, ?_, ?_⟩ <;> simp only [ab_up_ap, nd', if_true, if_false, c, c0, c1, c2, c3, c4, c5, c6, c7, c8]
theorem rc_there {h : AH} {a n0 n1 n2 n3 n4 n5 n6 n7 n8 : Nat} {S : RS} (hc : roofCells h a [n0, n1, n2, n3, n4, n5, n6, n7, n8] S) (v : Int) : roofCells (ab_up h a (.inl (1, [.inr (.inl (some n0)), .inr (.inl (some n1)), .inr (.inl (some n2)), .inr (.inl (some n3)), .inr (.inl (some n4)), .inr (.inl (some n5)), .inr (.inl (some n6)), .inr (.inl (some n7)), .inr (.inl (some n8)), .inl S.day, .inl S.laid, .inl v, .inl S.blown]))) a [n0, n1, n2, n3, n4, n5, n6, n7, n8] (S.s_there v) := by
  obtain ⟨m0, m1, m2, m3, m4, m5, m6, m7, m8, e, nd, c, c0, c1, c2, c3, c4, c5, c6, c7, c8⟩ := hc
  simp only [List.cons.injEq, and_true] at e
  obtain ⟨rfl, rfl, rfl, rfl, rfl, rfl, rfl, rfl, rfl⟩ := e
  have nd' := nd10 nd
  refine ⟨n0, n1, n2, n3, n4, n5, n6, n7, n8, rfl, nd, ?_, ?_, ?_, ?_, ?_, ?_, ?_, ?_, ?_, ?_⟩ <;> simp only [ab_up_ap, nd', if_true, if_false, c, c0, c1, c2, c3, c4, c5, c6, c7, c8]
theorem rc_blown {h : AH} {a n0 n1 n2 n3 n4 n5 n6 n7 n8 : Nat} {S : RS} (hc : roofCells h a [n0, n1, n2, n3, n4, n5, n6, n7, n8] S) (v : Int) : roofCells (ab_up h a (.inl (1, [.inr (.inl (some n0)), .inr (.inl (some n1)), .inr (.inl (some n2)), .inr (.inl (some n3)), .inr (.inl (some n4)), .inr (.inl (some n5)), .inr (.inl (some n6)), .inr (.inl (some n7)), .inr (.inl (some n8)), .inl S.day, .inl S.laid, .inl S.there, .inl v]))) a [n0, n1, n2, n3, n4, n5, n6, n7, n8] (S.s_blown v) := by
  obtain ⟨m0, m1, m2, m3, m4, m5, m6, m7, m8, e, nd, c, c0, c1, c2, c3, c4, c5, c6, c7, c8⟩ := hc
  simp only [List.cons.injEq, and_true] at e
  obtain ⟨rfl, rfl, rfl, rfl, rfl, rfl, rfl, rfl, rfl⟩ := e
  have nd' := nd10 nd
  refine ⟨n0, n1, n2, n3, n4, n5, n6, n7, n8, rfl, nd, ?_, ?_, ?_, ?_, ?_, ?_, ?_, ?_, ?_, ?_⟩ <;> simp only [ab_up_ap, nd', if_true, if_false, c, c0, c1, c2, c3, c4, c5, c6, c7, c8]
theorem RB.s_num {S : RS} (h : RB S) {f : Int → Int} (hf : ∀ i, -1 ≤ f i ∧ f i < 200) : RB (S.s_num f) := ⟨hf, h.2⟩
theorem RB.s_rot {S : RS} (h : RB S) {f : Int → Int} (hf : ∀ i, 0 ≤ f i ∧ f i ≤ 9) : RB (S.s_rot f) := ⟨h.1, hf, h.2.2⟩
theorem RB.s_row {S : RS} (h : RB S) {f : Int → Int} (hf : ∀ i, 0 ≤ f i ∧ f i ≤ 7) : RB (S.s_row f) := ⟨h.1, h.2.1, hf, h.2.2.2⟩
theorem RB.s_fw {S : RS} (h : RB S) {f g : Int → Int} (hf : ∀ i, 0 ≤ f i ∧ 0 ≤ g i ∧ g i ≤ 4 ∧ f i + g i ≤ 12) : RB ((S.s_frm f).s_wid g) := ⟨h.1, h.2.1, h.2.2.1, hf, h.2.2.2.2⟩
theorem RB.s_nai {S : RS} (h : RB S) {f : Int → Int} (hf : ∀ i, 0 ≤ f i ∧ f i ≤ 3) : RB (S.s_nai f) := ⟨h.1, h.2.1, h.2.2.1, h.2.2.2.1, hf, h.2.2.2.2.2⟩
theorem RB.s_crk {S : RS} (h : RB S) {f : Int → Int} (hf : ∀ i, f i = 0 ∨ f i = 1) : RB (S.s_crk f) := ⟨h.1, h.2.1, h.2.2.1, h.2.2.2.1, h.2.2.2.2.1, hf, h.2.2.2.2.2.2⟩
theorem RB.s_onr {S : RS} (h : RB S) {f : Int → Int} (hf : ∀ i, f i = 0 ∨ f i = 1) : RB (S.s_onr f) := ⟨h.1, h.2.1, h.2.2.1, h.2.2.2.1, h.2.2.2.2.1, h.2.2.2.2.2.1, hf, h.2.2.2.2.2.2.2⟩
theorem RB.s_goe {S : RS} (h : RB S) {f : Int → Int} (hf : ∀ i, f i = 0 ∨ f i = 1) : RB (S.s_goe f) := ⟨h.1, h.2.1, h.2.2.1, h.2.2.2.1, h.2.2.2.2.1, h.2.2.2.2.2.1, h.2.2.2.2.2.2.1, hf, h.2.2.2.2.2.2.2.2⟩
theorem RB.s_day {S : RS} (h : RB S) {v : Int} (hf : 0 ≤ v ∧ v ≤ 2000000000) : RB (S.s_day v) := ⟨h.1, h.2.1, h.2.2.1, h.2.2.2.1, h.2.2.2.2.1, h.2.2.2.2.2.1, h.2.2.2.2.2.2.1, h.2.2.2.2.2.2.2.1, hf, h.2.2.2.2.2.2.2.2.2⟩
theorem RB.s_laid {S : RS} (h : RB S) {v : Int} (hf : 0 ≤ v ∧ v ≤ 200) : RB (S.s_laid v) := ⟨h.1, h.2.1, h.2.2.1, h.2.2.2.1, h.2.2.2.2.1, h.2.2.2.2.2.1, h.2.2.2.2.2.2.1, h.2.2.2.2.2.2.2.1, h.2.2.2.2.2.2.2.2.1, hf⟩
theorem RB.s_there {S : RS} (h : RB S) {v : Int} : RB (S.s_there v) := h
theorem RB.s_blown {S : RS} (h : RB S) {v : Int} : RB (S.s_blown v) := h
theorem uf_all {f : Int → Int} {P : Int → Prop} (hf : ∀ i, P (f i)) {j v : Int} (hv : P v) : ∀ i, P (ab_uf f j v i) := by
  intro i
  unfold ab_uf
  split
  · exact hv
  · exact hf i
