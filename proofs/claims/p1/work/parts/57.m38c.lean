theorem law_xf {s : State} {args : Array Value} (hwb : ∀ w ∈ lw_tbl, w.before args s = true) (hgv : (Jvm.Cond.and given_1 narrow_1).before args s = true) : ab_XF s.heap.size s s.heap := by
  have hs := flat_of_before _ hgv
  have nc : ∀ i j, exK i → exK j → i ≠ j → (Jvm.Cond.not (Jvm.Cond.castable (exN i) (exN j))).before args s = true := by
    intro i j hi hj hij
    rcases hi with rfl | rfl | rfl <;> rcases hj with rfl | rfl | rfl <;> first | exact absurd rfl hij | exact hs _ (by decide +kernel)
  exact ⟨vx_Zqof (hwb _ (by decide +kernel)) (hwb _ (by decide +kernel)) (hs _ (by decide +kernel)) (fun a ha => Nat.not_le.mpr ha), vx_Zqof (hwb _ (by decide +kernel)) (hwb _ (by decide +kernel)) (hs _ (by decide +kernel)) (fun a ha => Nat.not_le.mpr ha), fun i j hi hj hij => va_Nc.of (nc i j hi hj hij)⟩
