/-! ===== what a long and a property say alike ===== -/
theorem cnt_trunc {q p : Nat → Bool} {N : Nat} : ∀ M, N ≤ M → (∀ s, s < M → q s = (decide (s < N) && p s)) → cntM q M = cntM p N := by
  intro M
  induction M with
  | zero => intro h _; obtain rfl : N = 0 := by omega
            rfl
  | succ M ih =>
    intro h hq
    by_cases e : N = M + 1
    · subst e
      exact cntM_cong _ (fun k hk => by rw [hq k hk, decide_eq_true hk, Bool.true_and])
    · simp only [cntM]
      rw [ih (by omega) (fun s hs => hq s (by omega)), hq M (by omega), decide_eq_false (by omega)]
      rfl
theorem cnt_zero {p : Nat → Bool} : ∀ n, cntM p n = 0 ↔ ∀ k, k < n → p k = false := by
  intro n
  induction n with
  | zero => exact ⟨fun _ k hk => absurd hk (Nat.not_lt_zero k), fun _ => rfl⟩
  | succ n ih =>
    rw [fls, ← ih]
    simp only [cntM]
    cases p n <;> simp
theorem any_iff {q : Nat → Bool} : ∀ n, anyB q n = true ↔ ∃ k, k < n ∧ q k = true := by
  intro n
  induction n with
  | zero => exact ⟨fun h => Bool.noConfusion h, fun ⟨k, hk, _⟩ => absurd hk (Nat.not_lt_zero k)⟩
  | succ n ih => rw [exs, ← ih]; simp only [anyB, Bool.or_eq_true]
theorem nI_m4 {j : Nat} (h : j < 2 ^ 31) : ¬ nI j = -4 := fun e => nI_pos h (by rw [e]; decide)
theorem lst_none {p : Nat → Bool} : ∀ n i, (∀ k, i ≤ k → k < i + n → p k = false) → lstF p n i = -4 := by
  intro n
  induction n with
  | zero => intro i _; rfl
  | succ n ih =>
    intro i h
    rw [lstF, if_neg (by rw [h i (Nat.le_refl i) (by omega)]; decide)]
    exact ih (i + 1) (fun k h1 h2 => h k (by omega) (by omega))
theorem lst_cong {p q : Nat → Bool} : ∀ n i, (∀ k, i ≤ k → k < i + n → p k = q k) → lstF p n i = lstF q n i := by
  intro n
  induction n with
  | zero => intro i _; rfl
  | succ n ih =>
    intro i h
    rw [lstF, lstF, h i (Nat.le_refl i) (by omega), ih (i + 1) (fun k h1 h2 => h k (by omega) (by omega))]
theorem ls_cong {p q : Nat → Bool} : ∀ n i, (∀ k, i ≤ k → k < i + n → p k = q k) → lsF p n i = lsF q n i := by
  intro n
  induction n with
  | zero => intro i _; rfl
  | succ n ih =>
    intro i h
    rw [lsF, lsF, h i (Nat.le_refl i) (by omega), ih (i + 1) (fun k h1 h2 => h k (by omega) (by omega))]
theorem lst_trunc {p : Nat → Bool} : ∀ n i m, (∀ k, i + n ≤ k → k < i + n + m → p k = false) → lstF p (n + m) i = lstF p n i := by
  intro n
  induction n with
  | zero => intro i m h; rw [Nat.zero_add]; exact lst_none m i (fun k h1 h2 => h k (by omega) (by omega))
  | succ n ih =>
    intro i m h
    rw [show n + 1 + m = (n + m) + 1 by omega, lstF, lstF, ih (i + 1) m (fun k h1 h2 => h k (by omega) (by omega))]
theorem lst_snoc {p : Nat → Bool} : ∀ n i, i + n < 2 ^ 30 → lstF p (n + 1) i = if lstF p n i = -4 then (if p (i + n) = true then nI (i + n) else -4) else lstF p n i := by
  intro n
  induction n with
  | zero =>
    intro i _
    rw [show lstF p 0 i = -4 from rfl, if_pos rfl, lstF]
    rfl
  | succ n ih =>
    intro i h
    have e : ∀ m, lstF p (m + 1) i = if p i = true then nI i else lstF p m (i + 1) := fun m => rfl
    rw [e (n + 1), e n]
    by_cases hp : p i = true
    · rw [if_pos hp, if_pos hp, if_neg (nI_m4 (by omega))]
    · rw [if_neg hp, if_neg hp, ih (i + 1) (by omega), show i + 1 + n = i + (n + 1) by omega]
theorem dy_lst {p : Nat → Bool} {S : Int32} : ∀ n, n < 2 ^ 30 → (dyK p S n).1 = cntM p n ∧ (dyK p S n).2.1 = lstF p n 0 ∧ (cntM p n = 0 ↔ lstF p n 0 = -4) := by
  intro n
  induction n with
  | zero => intro _; exact ⟨rfl, rfl, fun _ => rfl, fun _ => rfl⟩
  | succ n ih =>
    intro h
    obtain ⟨h1, h2, h3⟩ := ih (by omega)
    rw [lst_snoc n 0 (by omega), Nat.zero_add]
    simp only [dyK, cntM]
    by_cases hp : p n = true
    · rw [if_pos hp, if_pos hp, if_pos hp]
      refine ⟨by rw [h1], ?_, ?_⟩
      · simp only []
        by_cases e : (dyK p S n).1 = 0
        · rw [if_pos e, if_pos (h3.mp (by rw [← h1]; exact e))]
        · rw [if_neg e, if_neg (fun z => e (by rw [h1]; exact h3.mpr z)), h2]
      · constructor
        · intro z; omega
        · intro z
          exfalso
          by_cases e : lstF p n 0 = -4
          · rw [if_pos e] at z; exact nI_m4 (by omega) z
          · rw [if_neg e] at z; exact e z
    · rw [if_neg hp, if_neg hp, if_neg hp]
      refine ⟨h1, ?_, ?_⟩
      · rw [h2]
        by_cases e : lstF p n 0 = -4
        · rw [if_pos e, e]
        · rw [if_neg e]
      · rw [Nat.add_zero, h3]
        by_cases e : lstF p n 0 = -4
        · rw [if_pos e]; exact ⟨fun _ => rfl, fun _ => e⟩
        · rw [if_neg e]
theorem dy_gr {p : Nat → Bool} {S : Int32} : ∀ n, (dyK p S n).2.2.1 = grF p n := by
  intro n
  induction n with
  | zero => rfl
  | succ n ih =>
    simp only [dyK, grF]
    by_cases hp : p n = true
    · rw [if_pos hp, if_pos hp]
    · rw [if_neg hp, if_neg hp, ih]
theorem gr_trunc {q p : Nat → Bool} {N : Nat} : ∀ M, N ≤ M → (∀ s, s < M → q s = (decide (s < N) && p s)) → grF q M = grF p N := by
  intro M
  induction M with
  | zero => intro h _; obtain rfl : N = 0 := by omega
            rfl
  | succ M ih =>
    intro h hq
    by_cases e : N = M + 1
    · subst e
      have hc : ∀ n, n ≤ M + 1 → grF q n = grF p n := by
        intro n
        induction n with
        | zero => intro _; rfl
        | succ n ih2 =>
          intro hn
          rw [grF, grF, ih2 (by omega), hq n (by omega), decide_eq_true (by omega), Bool.true_and]
      exact hc _ (Nat.le_refl _)
    · rw [grF, hq M (by omega), decide_eq_false (by omega), Bool.false_and, if_neg (by decide)]
      exact ih (by omega) (fun s hs => hq s (by omega))
theorem dy_all {p : Nat → Bool} {S : Int32} {i : Nat} (hi : i < 32) : ∀ n, bt (dyK p S n).2.2.2.1 i = true ↔ bt S i = true ∧ ∀ s, s < n → p s = true → s.testBit i = true := by
  intro n
  induction n with
  | zero => exact ⟨fun h => ⟨h, fun s hs => absurd hs (Nat.not_lt_zero s)⟩, fun h => h.1⟩
  | succ n ih =>
    rw [fls, ← and_assoc, ← ih]
    simp only [dyK]
    by_cases hp : p n = true
    · rw [if_pos hp]
      simp only []
      rw [b_and, bt_nI hi, Bool.and_eq_true]
      simp [hp]
    · rw [if_neg hp]
      simp [hp]
theorem dy_non {p : Nat → Bool} {S : Int32} {i : Nat} (hi : i < 32) : ∀ n, bt (dyK p S n).2.2.2.2 i = true ↔ bt S i = true ∧ ∀ s, s < n → p s = true → s.testBit i = false := by
  intro n
  induction n with
  | zero => exact ⟨fun h => ⟨h, fun s hs => absurd hs (Nat.not_lt_zero s)⟩, fun h => h.1⟩
  | succ n ih =>
    rw [fls, ← and_assoc, ← ih]
    simp only [dyK]
    by_cases hp : p n = true
    · rw [if_pos hp]
      simp only []
      rw [b_and, b_not hi, bt_nI hi, Bool.and_eq_true]
      simp [hp]
    · rw [if_neg hp]
      simp [hp]
theorem b_full : ∀ nt, nt < 7 → ∀ i, i < 32 → bt (nI (2 ^ nt - 1)) i = decide (i < nt) := by decide +kernel
theorem hv_sub {x : Int64} {j : Nat} (hj : j < 6) : (x &&& (HVj j ^^^ -1) = 0) ↔ ∀ s, s < 64 → bl x s = true → s.testBit j = true := by
  rw [bl_zero]
  constructor
  · intro h s hs hx
    have := h s hs
    rw [bl_and, bl_not hs, bl_hv j hj s hs, hx] at this
    revert this
    cases s.testBit j <;> simp
  · intro h s hs
    rw [bl_and, bl_not hs, bl_hv j hj s hs]
    cases e : bl x s
    · rfl
    · rw [h s hs e]; rfl
theorem hv_dis {x : Int64} {j : Nat} (hj : j < 6) : (x &&& HVj j = 0) ↔ ∀ s, s < 64 → bl x s = true → s.testBit j = false := by
  rw [bl_zero]
  constructor
  · intro h s hs hx
    have := h s hs
    rw [bl_and, bl_hv j hj s hs, hx] at this
    revert this
    cases s.testBit j <;> simp
  · intro h s hs
    rw [bl_and, bl_hv j hj s hs]
    cases e : bl x s
    · rfl
    · rw [h s hs e]; rfl
section RPs
variable {x : Int64} {p : Nat → Bool} {N : Nat}
theorem RP.cnt (h : RP x p N) (hN : N ≤ 64) : bcl x = nI (cntM p N) := by
  rw [bcl_cnt, cnt_trunc 64 hN h]
theorem RP.zero (h : RP x p N) (hN : N ≤ 64) : x = 0 ↔ cntM p N = 0 := by
  rw [bl_zero, cnt_zero]
  constructor
  · intro a k hk
    have := a k (by omega)
    rw [h k (by omega), decide_eq_true hk, Bool.true_and] at this
    exact this
  · intro a s hs
    rw [h s hs]
    by_cases q : s < N
    · rw [a s q, Bool.and_false]
    · rw [decide_eq_false q, Bool.false_and]
theorem RP.at (h : RP x p N) {s : Nat} (hs : s < N) (hN : N ≤ 64) : bl x s = p s := by rw [h s (by omega), decide_eq_true hs, Bool.true_and]
theorem RP.mem (h : RP x p N) {s : Nat} (hs : s < N) (hN : N ≤ 64) : isIn (nI s) x ↔ p s = true := by rw [isIn_bl (by omega), h.at hs hN]
theorem RP.all (h : RP x p N) (hN : N ≤ 64) {Q : Nat → Prop} : (∀ s, s < 64 → bl x s = true → Q s) ↔ ∀ s, s < N → p s = true → Q s := by
  constructor
  · intro a s hs hp
    exact a s (by omega) (by rw [h.at hs hN]; exact hp)
  · intro a s hs hb
    rw [h s hs, Bool.and_eq_true, decide_eq_true_eq] at hb
    exact a s hb.1 hb.2
theorem RP.lst (h : RP x p N) (hN : N ≤ 64) : lstF (inL x) 64 0 = lstF p N 0 := by
  have e : lstF (inL x) 64 0 = lstF (fun s => decide (s < N) && p s) (N + (64 - N)) 0 := by
    rw [show N + (64 - N) = 64 by omega]
    exact lst_cong 64 0 (fun k _ hk => by rw [inL_bl (by omega), h k (by omega)])
  rw [e, lst_trunc N 0 (64 - N) (fun k h1 h2 => by rw [decide_eq_false (by omega), Bool.false_and])]
  exact lst_cong N 0 (fun k _ hk => by rw [decide_eq_true (by omega), Bool.true_and])
theorem RP.gr (h : RP x p N) (hN : N ≤ 64) : grF (inL x) 64 = grF p N := gr_trunc 64 hN (fun s hs => by rw [inL_bl hs, h s hs])
theorem RP.allB {nt : Nat} (h : RP x p N) (hN : N ≤ 64) (hnt : nt ≤ 6) (hz : ¬ cntM p N = 0) : _root_.Jvm.Pilot.CYesterStreetLaw_law_r8554_bc0834.allB x nt = (dyK p (nI (2 ^ nt - 1)) N).2.2.2.1 := by
  unfold _root_.Jvm.Pilot.CYesterStreetLaw_law_r8554_bc0834.allB
  rw [if_neg (fun e => hz ((h.zero hN).mp e))]
  apply b_ext
  intro i hi
  have h1 := bt_orF (p := fun j => decide (x &&& (HVj j ^^^ -1) = 0)) (wr := fun j => nI j) (w := fun j => j) hi nt (fun k hk => ⟨rfl, by omega⟩)
  have h2 := dy_all (p := p) (S := nI (2 ^ nt - 1)) hi N
  rw [b_full nt (by omega) i hi, decide_eq_true_eq] at h2
  have h3 : (∃ k, k < nt ∧ (decide (x &&& (HVj k ^^^ -1) = 0) = true ∧ k = i)) ↔ i < nt ∧ ∀ s, s < N → p s = true → s.testBit i = true := by
    constructor
    · rintro ⟨k, hk, a, rfl⟩
      exact ⟨hk, (h.all hN).mp ((hv_sub (by omega)).mp (of_decide_eq_true a))⟩
    · rintro ⟨hk, a⟩
      exact ⟨i, hk, decide_eq_true ((hv_sub (by omega)).mpr ((h.all hN).mpr a)), rfl⟩
  exact Bool.eq_iff_iff.mpr (h1.trans (h3.trans h2.symm))
theorem RP.nonB {nt : Nat} (h : RP x p N) (hN : N ≤ 64) (hnt : nt ≤ 6) (hz : ¬ cntM p N = 0) : _root_.Jvm.Pilot.CYesterStreetLaw_law_r8554_bc0834.nonB x nt = (dyK p (nI (2 ^ nt - 1)) N).2.2.2.2 := by
  unfold _root_.Jvm.Pilot.CYesterStreetLaw_law_r8554_bc0834.nonB
  rw [if_neg (fun e => hz ((h.zero hN).mp e))]
  apply b_ext
  intro i hi
  have h1 := bt_orF (p := fun j => decide (x &&& HVj j = 0)) (wr := fun j => nI j) (w := fun j => j) hi nt (fun k hk => ⟨rfl, by omega⟩)
  have h2 := dy_non (p := p) (S := nI (2 ^ nt - 1)) hi N
  rw [b_full nt (by omega) i hi, decide_eq_true_eq] at h2
  have h3 : (∃ k, k < nt ∧ (decide (x &&& HVj k = 0) = true ∧ k = i)) ↔ i < nt ∧ ∀ s, s < N → p s = true → s.testBit i = false := by
    constructor
    · rintro ⟨k, hk, a, rfl⟩
      exact ⟨hk, (h.all hN).mp ((hv_dis (by omega)).mp (of_decide_eq_true a))⟩
    · rintro ⟨hk, a⟩
      exact ⟨i, hk, decide_eq_true ((hv_dis (by omega)).mpr ((h.all hN).mpr a)), rfl⟩
  exact Bool.eq_iff_iff.mpr (h1.trans (h3.trans h2.symm))
theorem z_allB {nt : Nat} (hx : x = 0) : allB x nt = -4 ∧ nonB x nt = -4 := by unfold allB nonB; rw [if_pos hx, if_pos hx]; exact ⟨rfl, rfl⟩
/-- the sets of a NOTE -/
theorem RP.hv (h : RP x p N) {j : Nat} (hj : j < 6) : RP (x &&& HVj j) (fun s => decide (bt1 (nI s) (nI j) = 1) && p s) N := by
  intro s hs
  rw [bl_and, bl_hv j hj s hs, h s hs]
  have e : decide (bt1 (nI s) (nI j) = 1) = s.testBit j := by
    have := @bt1_1 (nI s) j (by omega)
    rw [bt_nI (by omega)] at this
    cases q : s.testBit j
    · rw [q] at this; exact decide_eq_false (fun z => absurd (this.mp z) (by decide))
    · rw [q] at this; exact decide_eq_true (this.mpr rfl)
  simp only []
  rw [e]
  cases decide (s < N) <;> cases p s <;> cases s.testBit j <;> rfl
theorem RP.hn (h : RP x p N) {j : Nat} (hj : j < 6) : RP (x &&& (HVj j ^^^ -1)) (fun s => !decide (bt1 (nI s) (nI j) = 1) && p s) N := by
  intro s hs
  rw [bl_and, bl_not hs, bl_hv j hj s hs, h s hs]
  have e : decide (bt1 (nI s) (nI j) = 1) = s.testBit j := by
    have := @bt1_1 (nI s) j (by omega)
    rw [bt_nI (by omega)] at this
    cases q : s.testBit j
    · rw [q] at this; exact decide_eq_false (fun z => absurd (this.mp z) (by decide))
    · rw [q] at this; exact decide_eq_true (this.mpr rfl)
  simp only []
  rw [e]
  cases decide (s < N) <;> cases p s <;> cases s.testBit j <;> rfl
theorem cnt_not {q : Nat → Bool} : ∀ n, cntM (fun s => q s && p s) n + cntM (fun s => !q s && p s) n = cntM p n := by
  intro n
  induction n with
  | zero => rfl
  | succ n ih =>
    simp only [cntM]
    by_cases h1 : q n = true <;> by_cases h2 : p n = true <;> simp [h1, h2] <;> omega
end RPs
