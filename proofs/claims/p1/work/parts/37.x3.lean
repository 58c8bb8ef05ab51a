/-! ===== more room does no harm ===== -/
theorem ab_s1_rm {tb : ATb} {ts : List Nat} {base : Nat} {ca : Nat → Option ACS} {rt MC MS MC' MS' : Nat} {K : Option AV → AH → Prop} {V : AVt} (h1 : MC ≤ MC') (h2 : MS ≤ MS') {ins : ClassFile.Instr} {len pc : Nat} {ls : ALs} {st : List AV} {h : AH} {k z : Nat}
    (hs : ab_s1 tb ts base ca rt MC MS K V ins len pc ls st h k z) : ab_s1 tb ts base ca rt MC' MS' K V ins len pc ls st h k z := by
  cases ins
  case newarray t => exact ⟨hs.1, ab_I_mo (fun _ _ q => ⟨⟨q.1.1, q.1.2.1, q.1.2.2.1, Nat.le_trans q.1.2.2.2.1 h1, Nat.le_trans q.1.2.2.2.2 h2⟩, q.2⟩) hs.2⟩
  case anewarray i => exact ⟨hs.1, ab_so_mo (fun _ => ab_I_mo (fun _ _ q => ⟨⟨q.1.1, q.1.2.1, q.1.2.2.1, Nat.le_trans q.1.2.2.2.1 h1, Nat.le_trans q.1.2.2.2.2 h2⟩, q.2⟩)) hs.2⟩
  case new i => exact ⟨hs.1, ab_so_mo (fun _ q => ⟨⟨Nat.le_trans q.1.1 h1, Nat.le_trans q.1.2 h2⟩, q.2⟩) hs.2⟩
  case invokevirtual i => exact ⟨hs.1, ab_so_mo (fun q w => ⟨w.1, ab_so_mo (fun ar u => ⟨⟨u.1.1, Nat.le_trans u.1.2.1 h1, Nat.le_trans u.1.2.2.1 h2, u.1.2.2.2⟩, u.2⟩) w.2⟩) hs.2⟩
  case invokespecial i => exact ⟨hs.1, ab_so_mo (fun q w => ⟨w.1, ab_so_mo (fun ar u => ⟨⟨u.1.1, Nat.le_trans u.1.2.1 h1, Nat.le_trans u.1.2.2 h2⟩, u.2⟩) w.2⟩) hs.2⟩
  case invokestatic i => exact ⟨hs.1, ab_so_mo (fun q w => ⟨w.1, ab_so_mo (fun ar u => ⟨⟨u.1.1, Nat.le_trans u.1.2.1 h1, Nat.le_trans u.1.2.2 h2⟩, u.2⟩) w.2⟩) hs.2⟩
  all_goals exact hs
theorem ab_sem_rm {tb : ATb} {ts : List Nat} {base : Nat} {cc : ByteArray} {ca : Nat → Option ACS} {rt nL MC MS MC' MS' : Nat} {en : List AV → ALs} {Tr : ATr} (hca : ∀ i q, ca i = some q → ab_mo q.2.2.2.2.2) (h1 : MC ≤ MC') (h2 : MS ≤ MS')
    (hsem : ab_Sem tb ts base cc ca rt nL MC MS en Tr) : ab_Sem tb ts base cc ca rt nL MC' MS' en Tr := by
  intro as h K hT V hV
  refine hsem as h K hT V (fun stop n pc ls st h k z hs => ?_)
  have hst : ∀ (V : AVt) (pc : Nat) (ls : ALs) (st : List AV) (h : AH) (k z : Nat), ab_step tb ts base cc ca rt MC MS K V pc ls st h k z → ab_step tb ts base cc ca rt MC' MS' K V pc ls st h k z := by
    intro V pc ls st h k z hs
    rw [ab_stp] at hs ⊢
    split at hs
    · exact ab_s1_rm h1 h2 hs
    · exact hs
  have hwp : ∀ (n pc : Nat) (ls : ALs) (st : List AV) (h : AH) (k z : Nat), ab_wp (ab_step tb ts base cc ca rt MC MS K) stop V n pc ls st h k z → ab_wp (ab_step tb ts base cc ca rt MC' MS' K) stop V n pc ls st h k z := by
    intro n
    induction n with
    | zero => intro pc ls st h k z hw; exact hw
    | succ n ih =>
      intro pc ls st h k z hw
      rw [ab_wps] at hw ⊢
      split
      · rename_i hp; rw [if_pos hp] at hw; exact hw
      · rename_i hp; rw [if_neg hp] at hw; exact hst _ _ _ _ _ _ _ (ab_step_mo hca ih hw)
  exact hV stop n pc ls st h k z (hst _ _ _ _ _ _ _ (ab_step_mo hca (hwp n) hs))
theorem r0_laid : (roof0 96).laid = 0 := rfl
theorem r0_there : (roof0 96).there = 0 := rfl
theorem r0_day : (roof0 96).day = 0 := rfl
theorem r0_blown : (roof0 96).blown = 0 := rfl
theorem r0_cpday : (cpF (roof0 96) (roof0 96)).day = 0 := rfl
