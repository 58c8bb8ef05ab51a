/-! ===== the law: a round of it ===== -/
/- -/
theorem mb_pass {M : SM} (mb : MB M) (mbs : MB (stormS M (M.dy (M.day % 7) 0) (M.dy (M.day % 7) 1))) (hd : M.day < 1000) : MB (passS M) := by
  have o := stormS_o M (M.dy (M.day % 7) 0) (M.dy (M.day % 7) 1)
  have hpn : (passS M).n = M.n := o.1
  have hdy : (passS M).dy = M.dy := o.2.2.1
  have hday2 : (passS M).day = M.day + 1 := by
    have : (passS M).day = (stormS M (M.dy (M.day % 7) 0) (M.dy (M.day % 7) 1)).day + 1 := rfl
    rw [this, o.2.2.2]
  have htk : (passS M).tk = (stormS M (M.dy (M.day % 7) 0) (M.dy (M.day % 7) 1)).tk := rfl
  have m5 := mb.2.2.2.2.1
  refine ⟨fun k => ?_, fun x y => ?_, by rw [hdy]; exact mb.2.2.1, by rw [hpn]; exact mb.2.2.2.1, by omega, by rw [htk]; exact mbs.2.2.2.2.2⟩
  · obtain ⟨c, e, -⟩ := pass_sl M k
    rw [e]
    have b := mbs.1 k
    cases c
    · exact b
    · obtain ⟨b1, b2, b3, b4, b5⟩ := b
      exact ⟨b1, b2, b3, Or.inr rfl, b5⟩
  · have e3 : (crkS (stormS M (M.dy (M.day % 7) 0) (M.dy (M.day % 7) 1)) (M.dy (M.day % 7) 2)).rt = M.rt := o.2.1
    have e2 : (passS M).rt x y = rotP (crkS (stormS M (M.dy (M.day % 7) 0) (M.dy (M.day % 7) 1)) (M.dy (M.day % 7) 2)) (M.dy (M.day % 7) 3) 96 x y := rfl
    have b := mb.2.1 x y
    rw [e2]
    simp only [rotP, rotG]
    rw [e3]
    repeat' split
    all_goals omega
set_option maxRecDepth 100000 in
set_option maxHeartbeats 4000000 in
theorem law_day {base : Nat} {V : AVt} {h : AH} {r s b nb : Nat} {fb : Int → Int} {A : SA} {S O : RS} {fc : Int → Int} {T : TS} {N : SN} {M : SM} {k z : Nat} (hV : lwHv base V) (hkz : k + 300 ≤ 90000 ∧ z + 15000 ≤ 900000) (hp : LwP h r s A (S, O, fc, T) N M) (hsc : h b = some (.inr (.inl (9, nb, fb)))) {tm x4 v5 : Int} {w6 w7 w8 w9 w10 w11 w12 w13 w14 w15 w16 w17 w18 w19 w20 w21 w22 : Option AV} (htm : M.day = tm ∧ 0 ≤ tm ∧ tm ≤ 900)
    (hE : ∀ h' v' N' M' w4 w5 w6 w7 w8 w9 w10 w11 w12 w13 w14 w15 w16 w17 w18 w19 w20 w21 w22 (k' z' : Nat), LwP h' r s A v' N' M' → M'.day = tm + 1 → h' b = some (.inr (.inl (9, nb, fb))) → k' ≤ k + 268 → z' ≤ z + 14400 → V 1128 [some (.inr (.inl (some b))), some (.inr (.inl (some r))), some (.inr (.inl (some s))), some (.inl (tm)), w4, w5, w6, w7, w8, w9, w10, w11, w12, w13, w14, w15, w16, w17, w18, w19, w20, w21, w22] [] h' k' z') : V 78 [some (.inr (.inl (some b))), some (.inr (.inl (some r))), some (.inr (.inl (some s))), some (.inl (tm)), some (.inl (x4)), some (.inl (v5)), w6, w7, w8, w9, w10, w11, w12, w13, w14, w15, w16, w17, w18, w19, w20, w21, w22] [] h k z := by
  obtain ⟨hA, hB, hg, hT⟩ := id hp
  dsimp only at hg hT
  have mb := hB.1
  dsimp only at mb
  have hn2 : M.n ≤ 200 := mb.2.2.2.1
  obtain ⟨r0, r1, r2, r3⟩ := mb.2.2.1 (M.day % 7)
  have hpn : (passS M).n = M.n := (stormS_o M _ _).1
  have hdy : (passS M).dy = M.dy := (stormS_o M _ _).2.2.1
  have hday2 : (passS M).day = M.day + 1 := by
    have : (passS M).day = (stormS M (M.dy (M.day % 7) 0) (M.dy (M.day % 7) 1)).day + 1 := rfl
    rw [this, (stormS_o _ _ _).2.2.2]
  have hT2 : TabR T (passS M) := fun k a b => by rw [hdy]; exact hT k a b
  have mbs := mb_storm hg mb (M.dy (M.day % 7) 0) (M.dy (M.day % 7) 1)
  have htk1 := mbs.2.2.2.2.2
  have htk2 := mb.2.2.2.2.2
  have hdayS : ∀ S2, Good S2 M → S2.day < 1000000 := fun S2 g => by
    have := g.2.2.2.2.2.1
    omega
  refine law_b hV (by omega) hp hsc (fun h1 g g2 F Rr q l1 f1 f2 q1 q2 => ?_)
  have s1 : LwS h1 r s A S O fc T N M M b nb fb g M.n F g2 Rr q (M.dy (M.day % 7)) := ⟨l1, hg, q2, fun u => sr_sim l1.1 l1.2.1 u (simIn_d q1)⟩
  have kz1 : k + (1 + M.n) + 1 ≤ 90000 ∧ z + (M.n + M.n * 8) + 96 ≤ 900000 := by omega
  refine law_d1 hV kz1 s1 rfl rfl r0 r1 (fun h2 O2 s2 => ?_)
  refine law_d2 hV kz1 s2 rfl r1 (fun h3 S3 be s3 b1 b2 b3 => ?_)
  refine law_d3 hV kz1 s3 rfl rfl r0 r1 rfl (by omega) b1 b2 b3 (fun h4 O4 s4 => ?_)
  refine law_d4 (v11 := 0) (v12 := 0) hV kz1 s4 hT (hdayS _ s4.2.1) (fun h5 O5 fc5 s5 => ?_)
  refine law_d5 (v12 := 0) hV kz1 s5 hT (hdayS _ s5.2.1) (fun h6 O6 fc6 s6 => ?_)
  refine law_d6 hV kz1 s6 hT (hdayS _ s6.2.1) (fun h7 O7 fc7 s7 => ?_)
  have mbp := mb_pass mb mbs (by omega)
  have o1 := onS_r 0 mbp
  have o2 := onS_r 1 mbp
  have o3 := rotS_r mbp
  have e11 : thS (passS M) M.n = onS (passS M) 0 := by rw [← hpn]; exact th_on _
  have e12 : brS (passS M) M.n = onS (passS M) 1 := by rw [← hpn]; exact br_on mbp
  refine law_d7 hV kz1 s7 hT rfl (by omega) rfl (by omega) rfl rfl rfl (by omega) (fun h8 S8 fc8 s8 => ?_)
  refine law_e hV kz1 s8 rfl hT q1 rfl hg rfl f1 f2 (by omega) (by omega) (fun h9 fc9 w19 w20 w21 w22 y1 y2 y3 => ?_)
  rw [e11, e12]
  have kz2 : k + (1 + M.n) + 1 + 61 ≤ 90000 ∧ z + (M.n + M.n * 8) + 96 + 12200 ≤ 900000 := by omega
  refine law_g1 hV kz2 y1 s8.2.1 y3 s8.2.2.2 rfl r3 (by omega) rfl rfl (fun ha fca x1 => ?_)
  refine law_g2 (dd := fun _ => 0) hV kz2 x1 s8.2.1 (by omega) rfl (fun hb Sb fcb bst row frm nd w22 x2 g2' c1 c2 c3 c4 => ?_)
  refine law_g4 (dd := fun _ => 0) hV kz2 x2 g2' hT2 (by omega) rfl c1 c2 c3 c4 (fun hc vc Nc Mc w22 k9 z9 p9 d9 sc9 kk zz => ?_)
  exact hE hc vc Nc Mc _ _ _ _ _ _ _ _ _ _ _ _ _ _ _ _ _ _ _ k9 z9 p9 (by omega) sc9 (by omega) (by omega)
