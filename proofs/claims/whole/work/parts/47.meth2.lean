/-! ===== the answers, second half ===== -/
theorem xor64 {a b : Nat} (ha : a < 64) (hb : b < 64) : a ^^^ b < 64 := Nat.xor_lt_two_pow (n := 6) ha hb
theorem pcn64 : ∀ c, c < 64 → pcn c ≤ 6 := by decide +kernel
theorem com_rel {x : Int64} {p : Nat → Bool} {N t : Nat} (hN : N ≤ 64) (ht : t < 64) (h : RP x p N) : ∀ n, n ≤ N → (comK x (nI t) n = (-4, 7) ∧ coM p (fun s => btsK (nI s ^^^ nI t) 8) n = (100, -4)) ∨ ∃ a, ∃ c, c ≤ 8 ∧ comK x (nI t) n = (a, nI c) ∧ coM p (fun s => btsK (nI s ^^^ nI t) 8) n = (nI c, a) := by
  intro n
  induction n with
  | zero => intro _; exact Or.inl ⟨rfl, rfl⟩
  | succ n ih =>
    intro hn
    have hx := xor64 (a := n) (b := t) (by omega) ht
    have h6 := pcn64 _ hx
    have e1 : bci (nI n ^^^ nI t) = nI (pcn (n ^^^ t)) := by rw [fb_xorI, pcn_all _ (by omega)]
    have e2 : btsK (nI n ^^^ nI t) 8 = nI (pcn (n ^^^ t)) := by rw [fb_xorI, bts_all _ (by omega)]
    have hm := h.mem (s := n) (by omega) hN
    simp only [comK, coM]
    rw [e1, e2]
    rcases ih (by omega) with ⟨h1, h2⟩ | ⟨a, c, hc, h1, h2⟩
    · rw [h1, h2]
      by_cases q : p n = true
      · rw [if_pos ⟨hm.mpr q, fun z => by have := (nI_leI (a := 7) (by omega) (by omega)).mp z; omega⟩, if_pos ⟨fun z => by have := (nI_leI (a := 100) (by omega) (by omega)).mp z; omega, q⟩]
        exact Or.inr ⟨_, _, by omega, rfl, rfl⟩
      · rw [if_neg (fun z => q (hm.mp z.1)), if_neg (fun z => q z.2)]
        exact Or.inl ⟨rfl, rfl⟩
    · rw [h1, h2]
      by_cases q : p n = true ∧ ¬ nI c ≤ nI (pcn (n ^^^ t))
      · rw [if_pos ⟨hm.mpr q.1, q.2⟩, if_pos ⟨q.2, q.1⟩]
        exact Or.inr ⟨_, _, by omega, rfl, rfl⟩
      · rw [if_neg (fun z => q ⟨hm.mp z.1, z.2⟩), if_neg (fun z => q ⟨z.2, z.1⟩)]
        exact Or.inr ⟨a, c, hc, rfl, rfl⟩
theorem com_eq {x : Int64} {p : Nat → Bool} {N t : Nat} (hN : N ≤ 64) (ht : t < 64) (h : RP x p N) : (comK x (nI t) N).1 = (coM p (fun s => btsK (nI s ^^^ nI t) 8) N).2 := by
  rcases com_rel hN ht h N (Nat.le_refl _) with ⟨h1, h2⟩ | ⟨a, c, -, h1, h2⟩ <;> rw [h1, h2]
/-! richest -/
theorem sum_eq {wo f : Nat → Int32} {s : Int32} : ∀ n, (∀ k, k < n → f k = wo k) → sumW wo s n = sumM f s n := by
  intro n
  induction n with
  | zero => intro _; rfl
  | succ n ih =>
    intro h
    simp only [sumW, sumM]
    rw [ih (fun k hk => h k (by omega)), h n (by omega)]
    by_cases q : bt1 s (nI n) = 1
    · rw [if_pos q, if_pos q]
    · rw [if_neg q, if_neg q, Int32.add_zero]
theorem sum_in {wo : Nat → Int32} {s : Int32} : ∀ n, n ≤ 6 → (∀ k, k < n → ¬ wo k < -9 ∧ wo k ≤ 9) → -9 * (n : Int) ≤ (sumW wo s n).toInt ∧ (sumW wo s n).toInt ≤ 9 * (n : Int) := by
  intro n
  induction n with
  | zero => intro _ _; show -9 * ((0 : Nat) : Int) ≤ (0 : Int32).toInt ∧ (0 : Int32).toInt ≤ 9 * ((0 : Nat) : Int); decide
  | succ n ih =>
    intro hn h
    obtain ⟨h1, h2⟩ := ih (by omega) (fun k hk => h k (by omega))
    obtain ⟨g1, g2⟩ := h n (by omega)
    rw [fa_lt] at g1
    rw [fa_le] at g2
    have e1 : (-9 : Int32).toInt = -9 := by decide
    have e2 : (9 : Int32).toInt = 9 := by decide
    rw [e1] at g1
    rw [e2] at g2
    simp only [sumW]
    by_cases q : bt1 s (nI n) = 1
    · rw [if_pos q, fb_addI (by omega) (by omega)]
      omega
    · rw [if_neg q]
      omega
theorem ric_rel {x : Int64} {p : Nat → Bool} {N : Nat} {g : Nat → Int32} (hN : N ≤ 64) (h : RP x p N) (hg : ∀ s, ¬ g s ≤ -100) : ∀ n, n ≤ N → (ricK x g n = (-4, 0) ∧ riM p g n = (-100, -4)) ∨ ∃ a, ∃ v, a < 64 ∧ ricK x g n = (nI a, v) ∧ riM p g n = (v, nI a) := by
  intro n
  induction n with
  | zero => intro _; exact Or.inl ⟨rfl, rfl⟩
  | succ n ih =>
    intro hn
    have hm := h.mem (s := n) (by omega) hN
    simp only [ricK, riM]
    rcases ih (by omega) with ⟨h1, h2⟩ | ⟨a, v, ha, h1, h2⟩
    · rw [h1, h2]
      by_cases q : p n = true
      · rw [if_pos ⟨hm.mpr q, Or.inl rfl⟩, if_pos ⟨hg n, q⟩]
        exact Or.inr ⟨n, _, by omega, rfl, rfl⟩
      · rw [if_neg (fun z => q (hm.mp z.1)), if_neg (fun z => q z.2)]
        exact Or.inl ⟨rfl, rfl⟩
    · rw [h1, h2]
      by_cases q : p n = true ∧ ¬ g n ≤ v
      · rw [if_pos ⟨hm.mpr q.1, Or.inr q.2⟩, if_pos ⟨q.2, q.1⟩]
        exact Or.inr ⟨n, _, by omega, rfl, rfl⟩
      · rw [if_neg (fun z => q ⟨hm.mp z.1, z.2.elim (fun y => absurd y (nI_m4 (by omega))) id⟩), if_neg (fun z => q ⟨z.2, z.1⟩)]
        exact Or.inr ⟨a, v, ha, rfl, rfl⟩
theorem ric_eq {x : Int64} {p : Nat → Bool} {N : Nat} {g : Nat → Int32} {wh : Int32} (hN : N ≤ 64) (h : RP x p N) (hg : ∀ s, ¬ g s ≤ -100) : (if wh = 0 ∨ wh = 1 then (if wh = 0 then (ricK x g N).1 else if (ricK x g N).1 = -4 then (ricK x g N).1 else 100 + (ricK x g N).2) else -1) = if ¬ wh < 0 ∧ ¬ 1 < wh then (if (riM p g N).2 = -4 then (riM p g N).2 else if wh = 0 then (riM p g N).2 else 100 + (riM p g N).1) else -1 := by
  by_cases q : wh = 0 ∨ wh = 1
  · rw [if_pos q, if_pos (in01.mpr q)]
    rcases ric_rel hN h hg N (Nat.le_refl _) with ⟨h1, h2⟩ | ⟨a, v, ha, h1, h2⟩
    · rw [h1, h2]
      simp
    · rw [h1, h2]
      have e : ¬ nI a = -4 := nI_m4 (by omega)
      simp only [if_neg e]
  · rw [if_neg q, if_neg (fun z => q (in01.mp z))]
/-! odds -/
def cbN (c : Nat) : Nat → Nat
  | 0 => 0
  | n + 1 => cbN c n + if bt1 (nI c) (nI n) = 1 then 1 else 0
theorem cbN_le (c : Nat) : ∀ n, cbN c n ≤ n
  | 0 => Nat.le_refl 0
  | n + 1 => by have := cbN_le c n; simp only [cbN]; split <;> omega
theorem prW_cb (v c : Nat) : ∀ n, prW v c n = (10 - v) ^ cbN c n * v ^ (n - cbN c n) := by
  intro n
  induction n with
  | zero => rfl
  | succ n ih =>
    have := cbN_le c n
    simp only [prW, cbN]
    rw [ih]
    by_cases q : bt1 (nI c) (nI n) = 1
    · rw [if_pos q, if_pos q, Nat.pow_succ, show n + 1 - (cbN c n + 1) = n - cbN c n by omega]
      ac_rfl
    · rw [if_neg q, if_neg q, Nat.add_zero, show n + 1 - cbN c n = (n - cbN c n) + 1 by omega, Nat.pow_succ]
      ac_rfl
theorem cb_pcn : ∀ rl, rl < 9 → ∀ c, c < 2 ^ rl → cbN c rl = pcn c := by decide +kernel
theorem exp_eq {v rl : Nat} {F g : Nat → Nat} (hrl : rl ≤ 8) (hg : ∀ c, c < 2 ^ rl → F c = g c) : ∀ n, n ≤ 2 ^ rl → expN v rl F n = expM v rl g n := by
  intro n
  induction n with
  | zero => intro _; rfl
  | succ n ih =>
    intro hn
    simp only [expN, expM]
    rw [ih (by omega), hg n (by omega), prW_cb, cb_pcn rl (by omega) n (by omega)]
    unfold wgt
    rw [Nat.mul_comm (g n)]
theorem meas_of {x : Int64} {kd : Int32} {n m : Nat} (hm : m < 2 ^ 31) (h : meas x kd n = nI m) : measN x kd n = m := by
  unfold measN
  rw [h, pk_tn (by omega)]
theorem meas_0 {x : Int64} {rl nt j : Nat} {th : Int32} {f : Nat → Int32} (hnt : nt ≤ 6) (hj : j < 6) (h : RP x (agM rl th f) (2 ^ nt)) : measN x 0 j = if anyB (cbQ rl th f (nI j) True) (2 ^ nt) = true then 1 else 0 := by
  have e := can_true hnt hj h
  apply meas_of
  · split <;> omega
  · unfold meas
    rw [if_pos rfl]
    by_cases q : anyB (cbQ rl th f (nI j) True) (2 ^ nt) = true
    · rw [if_pos q, if_neg (fun z => e.mp z q)]; rfl
    · rw [if_neg q, if_pos (e.mpr q)]; rfl
theorem meas_1 {x : Int64} {p : Nat → Bool} {N n : Nat} (hN : N ≤ 64) (h : RP x p N) : measN x 1 n = if cntM p N = 0 then 1 else 0 := by
  apply meas_of
  · split <;> omega
  · unfold meas
    rw [if_neg (by decide), if_pos rfl]
    by_cases q : cntM p N = 0
    · rw [if_pos q, if_pos ((h.zero hN).mpr q)]; rfl
    · rw [if_neg q, if_neg (fun z => q ((h.zero hN).mp z))]; rfl
theorem meas_2 {x : Int64} {p : Nat → Bool} {N n : Nat} (hN : N ≤ 64) (h : RP x p N) : measN x 2 n = cntM p N := by
  apply meas_of
  · have := cntM_le p N; omega
  · unfold meas
    rw [if_neg (by decide), if_neg (by decide)]
    exact h.cnt hN
theorem expR_eq {nt rl n : Nat} {w : Nat → Nat} {sp hm x kd wh : Int32} {on nd br : Nat → Int32} {g : Nat → Nat} (hrl : rl ≤ 8) (hg : ∀ c, c < 2 ^ rl → expF nt rl w sp hm on nd br kd n c = g c) : expR nt rl w sp hm on nd br x kd n wh = if ¬ x < 0 ∧ ¬ 10 < x then (if ¬ wh < 0 ∧ ¬ 1 < wh then lowT (expM x.toNatClampNeg rl g (2 ^ rl)) (10 ^ rl) wh else -1) else -1 := by
  unfold expR
  rw [inS, exp_eq hrl hg (2 ^ rl) (Nat.le_refl _)]
  by_cases q : ¬ x < 0 ∧ ¬ 10 < x
  · rw [if_pos q, if_pos q]
    by_cases z : wh = 0 ∨ wh = 1
    · rw [if_pos z, if_pos (in01.mpr z)]
    · rw [if_neg z, if_neg (fun y => z (in01.mp y))]
  · rw [if_neg q, if_neg q]
/-! round -/
theorem itr_sq {o : Int32 → Int32} {q : Nat → Nat} (h : ∀ a, o (nI a) = nI (q a)) (x : Nat) : ∀ n, itr o n (nI x) = nI (sqN q x n) := by
  intro n
  induction n with
  | zero => rfl
  | succ n ih => simp only [itr, sqN]; rw [ih, h]
theorem itr_add {o : Int32 → Int32} {x : Int32} {b : Nat} : ∀ a, itr o a (itr o b x) = itr o (a + b) x := by
  intro a
  induction a with
  | zero => rw [Nat.zero_add]; rfl
  | succ a ih => rw [show a + 1 + b = (a + b) + 1 by omega]; simp only [itr]; rw [ih]
theorem sq_per {q : Nat → Nat} {x t g : Nat} (e : sqN q x t = sqN q x g) : ∀ k, sqN q x (t + k) = sqN q x (g + k) := by
  intro k
  induction k with
  | zero => exact e
  | succ k ih => show q (sqN q x (t + k)) = q (sqN q x (g + k)); rw [ih]
theorem sq_back {q : Nat → Nat} {x t g : Nat} (htg : t < g) (e : sqN q x t = sqN q x g) : ∀ n, t ≤ n → ∃ j, t ≤ j ∧ j < g ∧ sqN q x n = sqN q x j := by
  intro n
  induction n using Nat.strongRecOn with
  | ind n ih =>
    intro hn
    by_cases h : n < g
    · exact ⟨n, hn, h, rfl⟩
    · obtain ⟨j, h1, h2, h3⟩ := ih (t + (n - g)) (by omega) (by omega)
      refine ⟨j, h1, h2, ?_⟩
      rw [← h3, sq_per e (n - g), show g + (n - g) = n by omega]
theorem lst_at {p : Nat → Bool} : ∀ n i j, i ≤ j → j < i + n → p j = true → (∀ k, i ≤ k → k < j → p k = false) → lstF p n i = nI j := by
  intro n
  induction n with
  | zero => intro i j h1 h2; omega
  | succ n ih =>
    intro i j h1 h2 h3 h4
    rw [lstF]
    by_cases e : i = j
    · subst e; rw [if_pos h3]
    · rw [if_neg (by rw [h4 i (Nat.le_refl i) (by omega)]; decide)]
      exact ih (i + 1) j (by omega) (by omega) h3 (fun k a b => h4 k (by omega) b)
theorem rnd_M {o : Int32 → Int32} {q : Nat → Nat} {x t g N : Nat} (h : ∀ a, o (nI a) = nI (q a)) (hN : N ≤ 64) (hx : x < N) (hq : ∀ a, q a < N) (hr : rndQ q x t g) : t ≤ 64 ∧ caM o (itr o t (nI x)) N = nI (g - t) ∧ (∀ i, i < t → caM o (itr o i (nI x)) N = -4) := by
  obtain ⟨h1, h2, h3, h4⟩ := hr
  have hb : ∀ n, sqN q x n < N := by
    intro n
    cases n with
    | zero => exact hx
    | succ n => exact hq _
  have hne : ∀ a b, sqN q x a ≠ sqN q x b → ¬ nI (sqN q x a) = nI (sqN q x b) := fun a b z y => z ((nI_eq (by have := hb a; omega) (by have := hb b; omega)).mp y)
  have hk : ∀ i k, (decide (itr o k (itr o i (nI x)) = itr o i (nI x))) = decide (nI (sqN q x (k + i)) = nI (sqN q x i)) := by
    intro i k
    rw [itr_add, itr_sq h, itr_sq h]
  refine ⟨by omega, ?_, ?_⟩
  · unfold caM
    have hl : g - t ≤ N := fb_holes N (g - t) (fun i => sqN q x (t + i)) (fun i _ => hb _) (fun i j hij hj => h4 _ _ (by omega) (by omega))
    apply lst_at N 1 (g - t) (by omega) (by omega)
    · rw [hk, show g - t + t = g by omega, ← h3]
      exact decide_eq_true rfl
    · intro k a b
      rw [hk]
      exact decide_eq_false (hne _ _ (fun z => h4 t (k + t) (by omega) (by omega) z.symm))
  · intro i hi
    unfold caM
    apply lst_none
    intro k a b
    rw [hk]
    refine decide_eq_false (hne _ _ (fun z => ?_))
    by_cases c : k + i < g
    · exact h4 i (k + i) (by omega) c z.symm
    · obtain ⟨j, j1, j2, j3⟩ := sq_back h1 h3 (k + i) (by omega)
      exact h4 i j (by omega) j2 (by rw [← j3, z])
/-! first, less, drift, count -/
theorem pcn_add : ∀ n, n < 8 → ∀ c, c < 2 ^ n → pcn (c + 2 ^ n) = pcn c + 1 := by decide +kernel
theorem or_add {n c : Nat} (h : c < 2 ^ n) : c ||| 2 ^ n = c + 2 ^ n := by
  have := Nat.two_pow_add_eq_or_of_lt h 1
  rw [Nat.or_comm, Nat.mul_one] at this
  rw [← this, Nat.add_comm]
theorem bci_cnt {p : Nat → Bool} : ∀ n, n ≤ 8 → ∃ c, c < 2 ^ n ∧ orF p (fun k => nI k) n = nI c ∧ pcn c = cntM p n := by
  intro n
  induction n with
  | zero => intro _; exact ⟨0, by decide, rfl, rfl⟩
  | succ n ih =>
    intro hn
    obtain ⟨c, h1, h2, h3⟩ := ih (by omega)
    simp only [orF, cntM]
    by_cases q : p n = true
    · rw [if_pos q, if_pos q, h2, pw31 n (by omega), fa_or, or_add h1]
      exact ⟨c + 2 ^ n, by rw [Nat.pow_succ]; omega, rfl, by rw [pcn_add n (by omega) c h1, h3]⟩
    · rw [if_neg q, if_neg q, Nat.add_zero]
      exact ⟨c, by rw [Nat.pow_succ]; omega, h2, h3⟩
theorem cnt5 {p q : Nat → Bool} {rl : Nat} (hrl : rl ≤ 8) (h : ∀ k, k < rl → p k = q k) : bci (orF p (fun k => nI k) rl) = nI (cntM q rl) := by
  obtain ⟨c, h1, h2, h3⟩ := bci_cnt (p := p) rl hrl
  have := pow_rl hrl
  rw [h2, pcn_all c (by omega), h3, cntM_cong rl h]
theorem lt1000 {x : Int32} : x < 1000 ↔ x ≤ 999 := by
  rw [fa_lt, fa_le]
  have e1 : (1000 : Int32).toInt = 1000 := by decide
  have e2 : (999 : Int32).toInt = 999 := by decide
  rw [e1, e2]
  omega
theorem ge3 {x : Int32} : (¬ x < 0 ∧ ¬ 3 ≤ x) ↔ (¬ x < 0 ∧ ¬ 2 < x) := by
  rw [fa_le, fa_lt 2 x]
  have e1 : (3 : Int32).toInt = 3 := by decide
  have e2 : (2 : Int32).toInt = 2 := by decide
  rw [e1, e2]
  constructor <;> rintro ⟨h1, h2⟩ <;> exact ⟨h1, by omega⟩
theorem ge4 {x : Int32} : (¬ x < 0 ∧ ¬ 4 ≤ x) ↔ (¬ x < 0 ∧ ¬ 3 < x) := by
  rw [fa_le, fa_lt 3 x]
  have e1 : (4 : Int32).toInt = 4 := by decide
  have e2 : (3 : Int32).toInt = 3 := by decide
  rw [e1, e2]
  constructor <;> rintro ⟨h1, h2⟩ <;> exact ⟨h1, by omega⟩
theorem lt2 {x : Int32} : (¬ x < 0 ∧ x < 2) ↔ (¬ x < 0 ∧ ¬ 1 < x) := by
  rw [fa_lt x 2, fa_lt 1 x]
  have e1 : (2 : Int32).toInt = 2 := by decide
  have e2 : (1 : Int32).toInt = 1 := by decide
  rw [e1, e2]
  constructor <;> rintro ⟨h1, h2⟩ <;> exact ⟨h1, by omega⟩
/-! sheets -/
theorem b_sh (v : Int32) : (v <<< ((24 : Int32) &&& 31)) >>> ((24 : Int32) &&& 31) = v.toInt8.toInt32 := by
  apply b_ext
  intro i hi
  rw [show (24 : Int32) = nI 24 from rfl, b_sshr 24 (by decide) _ hi]
  unfold bt
  rw [Int8.toBitVec_toInt32, Int32.toBitVec_toInt8, BitVec.getLsbD_signExtend, BitVec.msb_eq_getLsbD_last, BitVec.getLsbD_signExtend, BitVec.getLsbD_signExtend]
  have s : ∀ j, j < 32 → (v <<< (nI 24 &&& 31)).toBitVec.getLsbD j = (decide (24 ≤ j) && v.toBitVec.getLsbD (j - 24)) := fun j hj => b_shl 24 (by decide) v hj
  by_cases h : i < 8
  · rw [if_pos (by omega), s _ (by omega), if_pos h]
    simp [h, hi, show 24 ≤ 24 + i by omega]
  · rw [if_neg (by omega), s 31 (by omega), if_neg h]
    simp [hi]
theorem s_sh (v : Int32) : (v <<< ((16 : Int32) &&& 31)) >>> ((16 : Int32) &&& 31) = v.toInt16.toInt32 := by
  apply b_ext
  intro i hi
  rw [show (16 : Int32) = nI 16 from rfl, b_sshr 16 (by decide) _ hi]
  unfold bt
  rw [Int16.toBitVec_toInt32, Int32.toBitVec_toInt16, BitVec.getLsbD_signExtend, BitVec.msb_eq_getLsbD_last, BitVec.getLsbD_signExtend, BitVec.getLsbD_signExtend]
  have s : ∀ j, j < 32 → (v <<< (nI 16 &&& 31)).toBitVec.getLsbD j = (decide (16 ≤ j) && v.toBitVec.getLsbD (j - 16)) := fun j hj => b_shl 16 (by decide) v hj
  by_cases h : i < 16
  · rw [if_pos (by omega), s _ (by omega), if_pos h]
    simp [h, hi, show 16 ≤ 16 + i by omega]
  · rw [if_neg (by omega), s 31 (by omega), if_neg h]
    simp [hi]
theorem put_lay {l v : Int32} (h : l = -4 ∨ (¬ l < 0 ∧ ¬ 2 < l)) (h4 : ¬ l = -4) : putV (laC l) v = layV l v := by
  unfold putV layV laC
  rw [if_neg h4, b_sh, s_sh]
theorem rdC_c {sz : Nat} {rf rg : Nat → Int32} (hs : sz ≤ 40) (h : ∀ p, p < 40 → rf p = rg p) (i : Int32) : rdC sz rf i = rdC sz rg i := by
  unfold rdC
  by_cases q : okN i sz
  · rw [if_pos q, if_pos q]
    obtain ⟨j, hj, rfl⟩ := okN_ex q (by omega)
    rw [nI_clamp (by omega)]
    exact h j (by omega)
  · rw [if_neg q, if_neg q]
theorem rdF_c {la : Int32} {sz : Nat} {rf rg : Nat → Int32} {nt : Nat} {sp lane f : Int32} (hs : sz ≤ 40) (h : ∀ p, p < 40 → rf p = rg p) : ∀ k came s, rdF la sz rf nt sp lane f k came s = rdF la sz rg nt sp lane f k came s := by
  intro k
  induction k with
  | zero => intro came s; rfl
  | succ k ih =>
    intro came s
    simp only [rdF]
    simp only [rdC_c hs h, ih]
theorem refu_ok {nt : Nat} {sp n : Int32} {P : Prop} [Decidable P] (h : refu nt sp n P = 0) : okN n nt := by
  unfold refu at h
  apply Decidable.byContradiction
  intro q
  rw [if_neg q] at h
  exact absurd h (by decide)
theorem wb_W {nt : Nat} {s n : Int32} {P : Prop} [Decidable P] (hnt : nt ≤ 6) (hs : Wd 64 s) (hn : okN n nt) : Wd 64 (wb s n P) := by
  obtain ⟨a, ha, rfl⟩ := hs
  obtain ⟨j, hj, rfl⟩ := okN_ex hn (by omega)
  have k : ∀ a, a < 64 → ∀ j, j < 6 → (wb (nI a) (nI j) True).toNatClampNeg < 64 ∧ wb (nI a) (nI j) True = nI (wb (nI a) (nI j) True).toNatClampNeg ∧ (wb (nI a) (nI j) False).toNatClampNeg < 64 ∧ wb (nI a) (nI j) False = nI (wb (nI a) (nI j) False).toNatClampNeg := by decide +kernel
  have := k a ha j (by omega)
  by_cases p : P
  · have e : wb (nI a) (nI j) P = wb (nI a) (nI j) True := by unfold wb; rw [if_pos p, if_pos trivial]
    rw [e]; exact ⟨_, this.1, this.2.1⟩
  · have e : wb (nI a) (nI j) P = wb (nI a) (nI j) False := by unfold wb; rw [if_neg p, if_neg id]
    rw [e]; exact ⟨_, this.2.2.1, this.2.2.2⟩
theorem rdF_W {la : Int32} {sz : Nat} {rf : Nat → Int32} {nt : Nat} {sp lane f : Int32} (hnt : nt ≤ 6) : ∀ k came s q, Wd 64 s → (rdF la sz rf nt sp lane f k came s).2 = some q → Wd 64 q.1 := by
  intro k
  induction k with
  | zero => intro came s q hs h; simp only [rdF] at h; cases h; exact hs
  | succ k ih =>
    intro came s q hs h
    simp only [rdF] at h
    split at h
    · split at h
      · split at h
        · rename_i hr
          exact ih _ _ q (wb_W hnt hs (refu_ok hr)) h
        · exact absurd h (by simp)
      · exact absurd h (by simp)
    · cases h; exact hs
