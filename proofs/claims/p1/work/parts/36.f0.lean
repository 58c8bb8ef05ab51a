/-! ===== a roof without slates ===== -/
def bareR (S : RS) : Prop := S.laid = 0 ∧ (∀ i, 0 ≤ i → i < 96 → S.num i = -1) ∧ ∀ i, 0 ≤ i → i < 96 → S.rot i = 0
def bareC (f : Int → Int) : Prop := ∀ i, 0 ≤ i → i < 96 → f i = 0
def T00 : TS := ((fun _ => 0), (fun _ => 0), (fun _ => 0), (fun _ => 0))
def sv0 : SV := (roof0 96, roof0 96, (fun _ => 0), T00)
theorem bareR0 : bareR (roof0 96) := ⟨rfl, fun i h1 h2 => if_pos ⟨h1, h2⟩, fun _ _ _ => rfl⟩
theorem br_known {S : RS} (h : bareR S) (s : Int) : isKnownF S s = false := by
  unfold isKnownF
  rw [h.1]
  exact decide_eq_false (by omega)
theorem br_there {S : RS} (h : bareR S) (s : Int) : isThereF S s = false := by
  unfold isThereF
  rw [br_known h]
  rfl
theorem br_num {S : RS} (h : bareR S) (x y : Int) : numberAtF S x y = -1 := by
  unfold numberAtF
  split
  · exact h.2.1 _ (by omega) (by omega)
  · rfl
theorem br_rot {S : RS} (h : bareR S) (x y : Int) : rotAtF S x y = 0 := by
  unfold rotAtF
  split
  · exact h.2.2 _ (by omega) (by omega)
  · rfl
theorem br_cov {S : RS} (h : bareR S) (x y : Int) : coveredF S x y = false := by
  unfold coveredF wholeF
  rw [br_known h, br_known h]
  rfl
theorem br_free {S : RS} (h : bareR S) (row from9 wide : Int) : isFreeF S row from9 wide = true := by
  unfold isFreeF
  rw [allR_iff]
  intro j _ _
  rw [br_num h, br_num h]
  rfl
theorem sumR_0 : ∀ (n : Nat) (x : Int), sumR (fun _ => 0) n x = 0 := by
  intro n
  induction n with
  | zero => intro x; rfl
  | succ n ih => intro x; simp only [sumR]; rw [ih]; rfl
theorem br_covPl {S : RS} (h : bareR S) : covPlF S = 0 := by
  unfold covPlF
  simp only [br_cov h, bI_f, sumR_0]
theorem br_crkTh {S : RS} (h : bareR S) : crkThF S = 0 := by
  unfold crkThF
  rw [h.1]
  rfl
theorem br_allRot {S : RS} (h : bareR S) : allRotF S = 0 := by
  unfold allRotF
  rw [sumR_congr (g := fun _ => 0) 96 0 (fun j h1 h2 => h.2.2 j h1 (by omega)), sumR_0]
theorem br_many {S : RS} (h : bareR S) (f r : Int) : manyF S f r = 0 := by
  unfold manyF
  rw [h.1]
  rfl
theorem br_mark {S : RS} (h : bareR S) (f r : Int) : bareR (markF S f r) := h
theorem br_bearL (r : Int) : ∀ (n : Nat) (fo : Int) (S : RS), bareR S → (bearL r n fo S).1 = 20 := by
  intro n
  induction n with
  | zero => intro fo S _; rfl
  | succ n ih =>
    intro fo S h
    simp only [bearL]
    rw [br_many h, if_neg (by decide)]
    exact ih _ _ (br_mark h fo r)
theorem br_bears {S : RS} (h : bareR S) (r : Int) : (bearsF r S).1 = 20 := br_bearL r 20 1 S h
theorem br_blowS {S : RS} (n : Nat) (f r rd : Int) (h : bareR S) : blowL f r (n + 1) rd S = (rd, markF S f r) := by
  have e : blowL f r (n + 1) rd S = if manyF S f r = 0 then (rd, markF S f r) else blowL f r n (rd + 1) ((remF (markF S f r)).s_blown ((markF S f r).blown + ((markF S f r).there - (remF (markF S f r)).there))) := rfl
  rw [e, br_many h, if_pos rfl]
theorem br_blow {S : RS} (h : bareR S) (f r : Int) : blowF S f r = if f < 1 then (0, S) else (1, markF S f r) := by
  unfold blowF
  split
  · rfl
  · rw [br_blowS 59 f r 1 h]
theorem br_rd {S : RS} (h : bareR S) (f : Int → Int) : bareC (rdL S f 96) := fun i h1 h2 => by
  unfold rdL
  rw [if_pos ⟨h1, h2⟩, br_cov h]
  rfl
theorem br_in {f : Int → Int} (hf : bareC f) (rain above x y : Int) : inF f rain above x y = bif isPlaceF x y then rain + Int.tdiv above 2 else 0 := by
  unfold inF
  cases hp : isPlaceF x y
  · rfl
  · have hp2 : 0 ≤ x ∧ x < 12 ∧ 0 ≤ y ∧ y < 8 := of_decide_eq_true hp
    rw [hf _ (by omega) (by omega), if_pos rfl]
theorem br_wayOne {P : Int × RS} (h : bareR P.2) (x y : Int) : wayOne P x y = P := by
  unfold wayOne letGoF letsF
  rw [br_known h]
  show (P.1 + 0, P.2) = P
  rw [Int.add_zero]
theorem br_wayB (row : Int) : ∀ (n : Nat) (x : Int) (P : Int × RS), bareR P.2 → wayB row n x P = P := by
  intro n
  induction n with
  | zero => intro x P _; rfl
  | succ n ih =>
    intro x P h
    simp only [wayB]
    rw [br_wayOne h, br_wayOne h]
    exact ih _ _ h
theorem br_wayC (y : Int) : ∀ (n : Nat) (x : Int) (P : Int × RS), bareR P.2 → wayC y n x P = P := by
  intro n
  induction n with
  | zero => intro x P _; rfl
  | succ n ih =>
    intro x P h
    simp only [wayC]
    have hg : goingF P.2 (numberAtF P.2 x y) = false := by
      unfold goingF
      rw [br_known h]
      rfl
    rw [hg]
    exact ih _ _ h
theorem br_wayD : ∀ (n : Nat) (y : Int) (P : Int × RS), bareR P.2 → wayD n y P = P := by
  intro n
  induction n with
  | zero => intro y P _; rfl
  | succ n ih =>
    intro y P h
    simp only [wayD]
    rw [br_wayC y 12 0 P h]
    exact ih _ _ h
theorem br_way {S : RS} (h : bareR S) (row from9 wide : Int) : (wayF S row from9 wide).1 = 0 := by
  unfold wayF
  rw [br_wayB _ _ _ _ (show bareR (S.s_goe (clrG 200 S.goe)) from h), br_wayD _ _ _ (show bareR (S.s_goe (clrG 200 S.goe)) from h)]
theorem br_crack {S : RS} (h : bareR S) (hail : Int) : bareR (crackF S hail) := h
theorem br_in0 (f : Int → Int) (x y : Int) : inF f 0 0 x y = 0 := by
  unfold inF
  cases isPlaceF x y
  · rfl
  · show (if f (12 * y + x) = 0 then (0 : Int) + Int.tdiv 0 2 else 0) = 0
    split <;> rfl
theorem br_rtCol (f : Int → Int) (x : Int) : ∀ (n : Nat) (row : Int) (S : RS), rtCol f 0 x n row 0 S = S := by
  intro n
  induction n with
  | zero => intro row S; rfl
  | succ n ih =>
    intro row S
    simp only [rtCol, rtOne, br_in0]
    rw [if_pos (by decide)]
    exact ih _ _
theorem br_rtL (f : Int → Int) : ∀ (n : Nat) (x : Int) (S : RS), rtL f 0 n x S = S := by
  intro n
  induction n with
  | zero => intro x S; rfl
  | succ n ih =>
    intro x S
    simp only [rtL]
    rw [br_rtCol]
    exact ih _ _
theorem br_rt (S : RS) (f : Int → Int) : rtF S f 0 = S := br_rtL f 12 0 S
theorem br_day0 (d : Int) : dayF (fun _ => 0) d = 0 := by
  unfold dayF
  cases isDayF d <;> rfl
theorem br_goA {S : RS} (h : bareR S) : goA T00 S = crackF S 0 := by
  unfold goA T00
  simp only [br_day0]
  rw [br_blow h, if_pos (by decide)]
theorem br_goDay {f : Int → Int} {S : RS} (h : bareR S) : bareR (goDay T00 (f, S)).2 ∧ (goDay T00 (f, S)).2.there = S.there ∧ (goDay T00 (f, S)).2.blown = S.blown := by
  have e : goB T00 (f, S) = crackF S 0 := by
    show rtF (goA T00 S) (rdL (goA T00 S) f 96) (dayF (fun _ => 0) (S.day % 7)) = _
    rw [br_day0, br_rt, br_goA h]
  show bareR ((goB T00 (f, S)).s_day _) ∧ ((goB T00 (f, S)).s_day _).there = S.there ∧ ((goB T00 (f, S)).s_day _).blown = S.blown
  rw [e]
  exact ⟨h, rfl, rfl⟩
theorem br_goL : ∀ (n : Nat) (f : Int → Int) (S : RS), bareR S → bareR (goL T00 n (f, S)).2 ∧ (goL T00 n (f, S)).2.there = S.there ∧ (goL T00 n (f, S)).2.blown = S.blown := by
  intro n
  induction n with
  | zero => intro f S h; exact ⟨h, rfl, rfl⟩
  | succ n ih =>
    intro f S h
    obtain ⟨g1, g2, g3⟩ := br_goDay (f := f) h
    simp only [goL]
    obtain ⟨k1, k2, k3⟩ := ih (goDay T00 (f, S)).1 (goDay T00 (f, S)).2 g1
    exact ⟨k1, k2.trans g2, k3.trans g3⟩
theorem br_cp {O S : RS} (h : bareR S) : bareR (cpF O S) := ⟨h.1, fun i h1 h2 => by
  show cpA 96 O.num S.num i = -1
  unfold cpA
  rw [if_pos ⟨h1, h2⟩]
  exact h.2.1 i h1 h2, fun i h1 h2 => by
  show cpA 96 O.rot S.rot i = 0
  unfold cpA
  rw [if_pos ⟨h1, h2⟩]
  exact h.2.2 i h1 h2⟩
theorem br_told (d : Int) : toldF T00 d = 0 := by
  unfold toldF T00
  simp only [br_day0]
  rfl
/-! ===== rain on a bare roof ===== -/
def cF (rain : Int) : Nat → Int → Int
  | 0, acc => acc
  | n + 1, acc => cF rain n (rain + Int.tdiv acc 2)
def sF (rain : Int) : Nat → Int → Int
  | 0, _ => 0
  | n + 1, acc => (rain + Int.tdiv acc 2) + sF rain n (rain + Int.tdiv acc 2)
theorem br_col {f : Int → Int} (hf : bareC f) (rain x : Int) (hx : 0 ≤ x ∧ x < 12) : ∀ (n : Nat) (row acc : Int), row ≤ 7 → (n : Int) ≤ row + 1 → colL f rain x n row acc = cF rain n acc := by
  intro n
  induction n with
  | zero => intro row acc _ _; rfl
  | succ n ih =>
    intro row acc h1 h2
    have hp : isPlaceF x row = true := decide_eq_true (by omega)
    simp only [colL, cF]
    rw [br_in hf, hp]
    exact ih _ _ (by omega) (by omega)
theorem br_inS {f : Int → Int} (hf : bareC f) (rain x : Int) (hx : 0 ≤ x ∧ x < 12) : ∀ (n : Nat) (row acc : Int), row ≤ 7 → (n : Int) ≤ row + 1 → inS f rain x n row acc = sF rain n acc := by
  intro n
  induction n with
  | zero => intro row acc _ _; rfl
  | succ n ih =>
    intro row acc h1 h2
    have hp : isPlaceF x row = true := decide_eq_true (by omega)
    simp only [inS, sF]
    rw [br_in hf, hp]
    show (rain + Int.tdiv acc 2) + inS f rain x n (row - 1) (rain + Int.tdiv acc 2) = _
    rw [ih _ _ (by omega) (by omega)]
theorem br_inAll {f : Int → Int} (hf : bareC f) (rain : Int) : inAllF f rain = sumR (fun _ => sF rain 8 0) 12 0 := by
  unfold inAllF
  exact sumR_congr 12 0 (fun j h1 h2 => br_inS hf rain j ⟨h1, by omega⟩ 8 7 0 (by omega) (by omega))
/-- the same, as the reference adds it -/
def allIF (rain : Int) : Int := sumR (fun k => cF rain (8 - k / 12).toNat 0) 96 0
theorem allIF_eq {rain : Int} (h : 0 ≤ rain ∧ rain ≤ 9) : sumR (fun _ => sF rain 8 0) 12 0 = allIF rain := by
  have hd : ∀ k ∈ List.range 10, sumR (fun _ => sF ((k : Nat) : Int) 8 0) 12 0 = allIF ((k : Nat) : Int) := by decide +kernel
  have := hd rain.toNat (List.mem_range.mpr (by omega))
  rw [show ((rain.toNat : Nat) : Int) = rain by omega] at this
  exact this
/-! ===== where a slate had best be laid on a bare roof ===== -/
def wV (row from9 x y acc : Int) : Int := if (y = row ∨ y + 1 = row) ∧ from9 ≤ x ∧ x ≤ from9 + 3 then 0 else 9 + Int.tdiv acc 2
def wS (row from9 x : Int) : Nat → Int → Int → Int
  | 0, _, _ => 0
  | n + 1, y, acc => wV row from9 x y acc + wS row from9 x n (y - 1) (wV row from9 x y acc)
def wF (row from9 : Int) : Int := sumR (fun x => wS row from9 x 8 7 0) 12 0
theorem covOne_at {f : Int → Int} {x0 y0 x y : Int} (hx0 : 0 ≤ x0 ∧ x0 < 12) (hx : 0 ≤ x ∧ x < 12) (hy : 0 ≤ y ∧ y < 8) : covOneF f x0 y0 (12 * y + x) = if x = x0 ∧ y = y0 then 1 else f (12 * y + x) := by
  unfold covOneF
  cases hp : isPlaceF x0 y0
  · have hp2 : ¬ (0 ≤ x0 ∧ x0 < 12 ∧ 0 ≤ y0 ∧ y0 < 8) := of_decide_eq_false hp
    rw [if_neg (by omega)]
    rfl
  · show ab_uf f (12 * y0 + x0) 1 (12 * y + x) = _
    unfold ab_uf
    by_cases h : x = x0 ∧ y = y0
    · rw [if_pos (by omega), if_pos h]
    · rw [if_neg (by omega), if_neg h]
theorem covAdd_at (row : Int) {x y : Int} (hx : 0 ≤ x ∧ x < 12) (hy : 0 ≤ y ∧ y < 8) : ∀ (n : Nat) (x0 : Int) (f : Int → Int), 0 ≤ x0 → x0 + n ≤ 12 → covAddL row n x0 f (12 * y + x) = if (y = row ∨ y + 1 = row) ∧ x0 ≤ x ∧ x < x0 + n then 1 else f (12 * y + x) := by
  intro n
  induction n with
  | zero => intro x0 f _ _; rw [if_neg (by omega)]; rfl
  | succ n ih =>
    intro x0 f h1 h2
    simp only [covAddL]
    rw [ih _ _ (by omega) (by omega), covOne_at (by omega) hx hy, covOne_at (by omega) hx hy]
    by_cases a1 : (y = row ∨ y + 1 = row) ∧ x0 + 1 ≤ x ∧ x < x0 + 1 + n
    · rw [if_pos a1, if_pos (by omega)]
    · rw [if_neg a1]
      by_cases a2 : x = x0 ∧ y = row - 1
      · rw [if_pos a2, if_pos (by omega)]
      · rw [if_neg a2]
        by_cases a3 : x = x0 ∧ y = row
        · rw [if_pos a3, if_pos (by omega)]
        · rw [if_neg a3, if_neg (by omega)]
theorem br_inW {f : Int → Int} (hf : bareC f) {row from9 x : Int} (hr : 0 ≤ row ∧ row < 8) (hfr : 0 ≤ from9 ∧ from9 ≤ 8) (hx : 0 ≤ x ∧ x < 12) : ∀ (n : Nat) (y acc : Int), y ≤ 7 → (n : Int) ≤ y + 1 → inS (covAddL row 4 from9 f) 9 x n y acc = wS row from9 x n y acc := by
  intro n
  induction n with
  | zero => intro y acc _ _; rfl
  | succ n ih =>
    intro y acc h1 h2
    have e : inF (covAddL row 4 from9 f) 9 acc x y = wV row from9 x y acc := by
      have hp : isPlaceF x y = true := decide_eq_true (by omega)
      unfold inF wV
      rw [hp, covAdd_at row hx (by omega) 4 from9 f (by omega) (by omega), hf _ (by omega) (by omega)]
      show (if (if (y = row ∨ y + 1 = row) ∧ from9 ≤ x ∧ x < from9 + 4 then (1 : Int) else 0) = 0 then _ else _) = _
      by_cases h : (y = row ∨ y + 1 = row) ∧ from9 ≤ x ∧ x < from9 + 4
      · rw [if_pos h, if_neg (by decide), if_pos (by omega)]
      · rw [if_neg h, if_pos rfl, if_neg (by omega)]
    simp only [inS, wS]
    rw [e, ih _ _ (by omega) (by omega)]
theorem br_ciw {S : RS} (h : bareR S) (f : Int → Int) {row from9 : Int} (hr : 0 ≤ row ∧ row < 8) (hfr : 0 ≤ from9 ∧ from9 ≤ 8) : inAllF (ciwC S f row from9 4) 9 = wF row from9 := by
  unfold inAllF wF ciwC
  exact sumR_congr 12 0 (fun j h1 h2 => br_inW (br_rd h f) hr hfr ⟨h1, by omega⟩ 8 7 0 (by omega) (by omega))
/-- the reference's look: best, least -/
def gL (row : Int) : Nat → Int → Int × Int → Int × Int
  | 0, _, B => B
  | n + 1, x, B => gL row n (x + 1) (if wF row x < B.2 then (100 * row + x, wF row x) else B)
def gM : Nat → Int → Int × Int → Int × Int
  | 0, _, B => B
  | n + 1, y, B => gM n (y + 1) (gL y 9 0 B)
def gF : Int × Int := gM 8 0 (-1, allIF 9)
def gRel (B : BS) (G : Int × Int) : Prop := B.1 = G.2 ∧ B.2.1 = G.1
theorem br_bestL {S : RS} (h : bareR S) {row : Int} (hr : 0 ≤ row ∧ row < 8) : ∀ (n : Nat) (x : Int) (B : BS) (G : Int × Int), gRel B G → 0 ≤ x → x + n ≤ 9 → gRel (bestL S row n x B) (gL row n x G) := by
  intro n
  induction n with
  | zero => intro x B G hg _ _; exact hg
  | succ n ih =>
    intro x B G hg h1 h2
    simp only [bestL, gL]
    refine ih _ _ _ ?_ (by omega) (by omega)
    unfold bestOne
    rw [br_free h, br_ciw h B.2.2 hr (by omega), hg.1]
    show gRel (if wF row x < G.2 then _ else _) _
    by_cases hlt : wF row x < G.2
    · rw [if_pos hlt, if_pos hlt]; exact ⟨rfl, rfl⟩
    · rw [if_neg hlt, if_neg hlt]; exact ⟨rfl, hg.2⟩
theorem br_bestM {S : RS} (h : bareR S) : ∀ (n : Nat) (y : Int) (B : BS) (G : Int × Int), gRel B G → 0 ≤ y → y + n ≤ 8 → gRel (bestM S n y B) (gM n y G) := by
  intro n
  induction n with
  | zero => intro y B G hg _ _; exact hg
  | succ n ih =>
    intro y B G hg h1 h2
    simp only [bestM, gM]
    exact ih _ _ _ (br_bestL h ⟨h1, by omega⟩ 9 0 B G hg (by omega) (by omega)) (by omega) (by omega)
theorem br_best {S : RS} (h : bareR S) (f : Int → Int) : (bestF S f).2.1 = gF.1 := by
  unfold bestF gF
  exact (br_bestM h 8 0 _ _ ⟨by rw [br_inAll (br_rd h f), allIF_eq (by omega)], rfl⟩ (by omega) (by omega)).2
