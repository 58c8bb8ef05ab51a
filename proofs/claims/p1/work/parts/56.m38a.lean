/-! ===== the law's start ===== -/
theorem law_known {s : State} {args : Array Value} (hwb : ∀ w ∈ lw_wd, w.before args s = true) : ∃ D : va_G, ∀ (c : Nat) (q : vw_C), vwCl[c]? = some q → u_Kn s q.1 q.2.1 q.2.2 (D.1 c) (D.2 c) := by
  obtain ⟨a0, i0, h0⟩ := u_known (C := RX0) (T := TX0) (N := 1) hwb wuX0 (hwb (Jvm.Cond.instantiable RX0 1) (lw_wi (by decide +kernel) (by decide +kernel)))
  obtain ⟨a1, i1, h1⟩ := u_known (C := RX1) (T := TX1) (N := 13) hwb wuX1 (hwb (Jvm.Cond.instantiable RX1 13) (lw_wi (by decide +kernel) (by decide +kernel)))
  obtain ⟨a2, i2, h2⟩ := u_known (C := RX2) (T := TX2) (N := 4) hwb wuX2 (hwb (Jvm.Cond.instantiable RX2 4) (lw_wi (by decide +kernel) (by decide +kernel)))
  obtain ⟨a3, i3, h3⟩ := u_known (C := RX3) (T := TX3) (N := 4) hwb wuX3 (hwb (Jvm.Cond.instantiable RX3 4) (lw_wi (by decide +kernel) (by decide +kernel)))
  obtain ⟨a4, i4, h4⟩ := u_known (C := RX4) (T := TX4) (N := 8) hwb wuX4 (hwb (Jvm.Cond.instantiable RX4 8) (lw_wi (by decide +kernel) (by decide +kernel)))
  refine ⟨(fun c => match c with | 0 => a0 | 1 => a1 | 2 => a2 | 3 => a3 | _ => a4, fun c => match c with | 0 => i0 | 1 => i1 | 2 => i2 | 3 => i3 | _ => i4), fun c q hq => ?_⟩
  match c, hq with
  | 0, hq => exact (Option.some.inj hq : (RX0, TX0, 1) = q) ▸ h0
  | 1, hq => exact (Option.some.inj hq : (RX1, TX1, 13) = q) ▸ h1
  | 2, hq => exact (Option.some.inj hq : (RX2, TX2, 4) = q) ▸ h2
  | 3, hq => exact (Option.some.inj hq : (RX3, TX3, 4) = q) ▸ h3
  | 4, hq => exact (Option.some.inj hq : (RX4, TX4, 8) = q) ▸ h4
  | n + 5, hq => exact absurd (hq.symm.trans (List.getElem?_eq_none (show vwCl.length ≤ n + 5 from Nat.le_add_left 5 n))) (fun h => by cases h)
theorem ab_ao_el {U : State} {A : Array Value} (h : (Jvm.Cond.arrayOver (.array .int)).before A U = true) : ∃ (comp c : ClassId) (k : Class), U.vm.findClass (FieldType.array .int).toString = some comp ∧ U.vm.classes[c]? = some k ∧ k.kind = .array comp (.array .int) ∧ U.vm.findClass ("[" ++ (FieldType.array .int).toString) = some c := by
  simp only [Jvm.Cond.before, Jvm.Cond.holds, Jvm.Cond.value, beq_iff_eq] at h
  cases hc : U.vm.findClass (FieldType.array .int).toString with
  | none => simp [hc] at h
  | some comp =>
    simp only [hc, Option.bind_some, Option.bind_eq_some_iff, Option.map_eq_some_iff] at h
    obtain ⟨c, h2, k, hk, hbb⟩ := h
    obtain ⟨hlt, hp, -⟩ := Array.findIdx?_eq_some_iff_getElem.mp h2
    have hkk : U.vm.classes[c] = k := (Array.getElem?_eq_some_iff.mp hk).2
    rw [hkk] at hp
    cases hkind0 : k.kind with
    | array component ty =>
      rw [hkind0] at hbb hp
      simp at hbb hp
      exact ⟨comp, c, k, rfl, hk, by rw [hkind0, hp, hbb.1], hbb.2⟩
    | _ => rw [hkind0] at hbb; simp at hbb
theorem law_types {s : State} {args : Array Value} (hwb : ∀ w ∈ lw_wd, w.before args s = true) : ∃ ty : Nat → ClassId, ∀ t ∈ lw_ts, ab_T s t (ty t) := by
  obtain ⟨c0, k0, p0, d1, d2, d3⟩ := Cond.arrayClass_spec (type := .int) (hwb (Jvm.Cond.arrayClass .int) (lw_wi (by decide +kernel) (by decide +kernel)))
  obtain ⟨c1, k1, p1, e1, e2, e3⟩ := Cond.arrayClass_spec (type := .boolean) (hwb (Jvm.Cond.arrayClass .boolean) (lw_wi (by decide +kernel) (by decide +kernel)))
  obtain ⟨c2, k2, p2, f1, f2, f3⟩ := Cond.arrayClass_spec (type := .long) (hwb (Jvm.Cond.arrayClass .long) (lw_wi (by decide +kernel) (by decide +kernel)))
  obtain ⟨p3, c3, k3, g1, g2, g3, g4⟩ := ab_ao_el (hwb (Jvm.Cond.arrayOver (.array .int)) (lw_wi (by decide +kernel) (by decide +kernel)))
  refine ⟨fun t => match t with | 0 => c0 | 1 => c1 | 2 => c2 | _ => c3, fun t ht => ?_⟩
  simp only [lw_ts, List.mem_cons, List.not_mem_nil, or_false] at ht
  rcases ht with rfl | rfl | rfl | rfl
  · exact ⟨fun N z => ⟨(fun k h => by cases h), k0, d2, p0, d3⟩, d1⟩
  · exact ⟨fun N z => ⟨(fun k h => by cases h), k1, e2, p1, e3⟩, e1⟩
  · exact ⟨fun N z => ⟨(fun k h => by cases h), k2, f2, p2, f3⟩, f1⟩
  · exact ⟨fun N z => ⟨(fun k h => by cases h), k3, g2, p3, g3⟩, g4, k3, p3, g2, g3, g1⟩
