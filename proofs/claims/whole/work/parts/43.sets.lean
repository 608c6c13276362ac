/-! ===== longs as sets of sets: bit s of a long stands for the set s ===== -/
def bl (x : Int64) (i : Nat) : Bool := x.toBitVec.getLsbD i
theorem bl_ext {x y : Int64} (h : ∀ i, i < 64 → bl x i = bl y i) : x = y := Int64.toBitVec_inj.mp (BitVec.eq_of_getLsbD_eq (fun i hi => h i hi))
theorem bl_or (x y : Int64) (i : Nat) : bl (x ||| y) i = (bl x i || bl y i) := by unfold bl; rw [Int64.toBitVec_or, BitVec.getLsbD_or]
theorem bl_and (x y : Int64) (i : Nat) : bl (x &&& y) i = (bl x i && bl y i) := by unfold bl; rw [Int64.toBitVec_and, BitVec.getLsbD_and]
theorem bl_xor (x y : Int64) (i : Nat) : bl (x ^^^ y) i = (bl x i ^^ bl y i) := by unfold bl; rw [Int64.toBitVec_xor, BitVec.getLsbD_xor]
theorem bl_m1 : ∀ i, i < 64 → bl (-1) i = true := by decide +kernel
theorem bl_0 (i : Nat) : bl 0 i = false := BitVec.getLsbD_zero
theorem bl_not {x : Int64} {i : Nat} (hi : i < 64) : bl (x ^^^ -1) i = !bl x i := by rw [bl_xor, bl_m1 i hi]; cases bl x i <;> rfl
theorem bl_zero {x : Int64} : x = 0 ↔ ∀ i, i < 64 → bl x i = false := ⟨fun h i _ => by rw [h]; exact bl_0 i, fun h => bl_ext (fun i hi => by rw [h i hi, bl_0])⟩
theorem bl_hv : ∀ j, j < 6 → ∀ s, s < 64 → bl (HVj j) s = s.testBit j := by decide +kernel
theorem bl_lN {n s : Nat} (hs : s < 64) : bl (lN n) s = n.testBit s := by
  unfold bl
  rw [lN_bv, BitVec.getLsbD_ofNat]
  simp [hs]
theorem isIn_bl {s : Nat} {x : Int64} (hs : s < 64) : isIn (nI s) x ↔ bl x s = true := by
  obtain ⟨n, hn, rfl⟩ := wb_of x
  unfold isIn
  rw [wb_bit hn hs, bl_lN hs, Nat.testBit_eq_decide_div_mod_eq, decide_eq_true_eq, show (1 : Int64) = lN 1 from rfl]
  have h : n / 2 ^ s % 2 < 2 := Nat.mod_lt _ (by decide)
  exact lN_eq (by omega) (by omega)
theorem inL_bl {s : Nat} {x : Int64} (hs : s < 64) : inL x s = bl x s := by
  unfold inL
  by_cases h : bl x s = true
  · rw [h]; exact decide_eq_true ((isIn_bl hs).mpr h)
  · rw [Bool.eq_false_iff.mpr h]; exact decide_eq_false (fun q => h ((isIn_bl hs).mp q))
/-! ints -/
theorem b_zero {x : Int32} : x = 0 ↔ ∀ i, i < 32 → bt x i = false := ⟨fun h i _ => by rw [h]; exact b_0 i, fun h => b_ext (fun i hi => by rw [h i hi, b_0])⟩
theorem b_1 : ∀ i, i < 32 → bt 1 i = decide (i = 0) := by decide +kernel
theorem b_not {x : Int32} {i : Nat} (hi : i < 32) : bt (x ^^^ -1) i = !bt x i := by rw [b_xor, b_m1 i hi]; cases bt x i <;> rfl
theorem b_pow : ∀ l, l < 32 → ∀ i, i < 32 → bt ((1 : Int32) <<< (nI l &&& 31)) i = decide (l = i) := by decide +kernel
theorem bt_nI {s i : Nat} (hi : i < 32) : bt (nI s) i = s.testBit i := by
  unfold bt
  show (BitVec.ofNat 32 s).getLsbD i = _
  rw [BitVec.getLsbD_ofNat]
  simp [hi]
theorem bt1_bt (b : Int32) {k : Nat} (hk : k < 32) : bt1 b (nI k) = if bt b k = true then 1 else 0 := by
  unfold bt1
  apply b_ext
  intro i hi
  rw [b_and, b_sshr k hk b hi, b_1 i hi]
  by_cases e : i = 0
  · subst e
    rw [Nat.add_zero, if_pos hk]
    by_cases q : bt b k = true
    · rw [if_pos q, q, b_1 0 (by decide)]; rfl
    · rw [if_neg q, b_0, Bool.eq_false_iff.mpr q]; rfl
  · rw [decide_eq_false e, Bool.and_false]
    by_cases q : bt b k = true
    · rw [if_pos q, b_1 i hi, decide_eq_false e]
    · rw [if_neg q, b_0]
theorem bt1_1 {b : Int32} {k : Nat} (hk : k < 32) : bt1 b (nI k) = 1 ↔ bt b k = true := by
  rw [bt1_bt b hk]
  by_cases q : bt b k = true
  · rw [if_pos q]; exact ⟨fun _ => q, fun _ => rfl⟩
  · rw [if_neg q]; exact ⟨fun z => absurd z (by decide), fun z => absurd z q⟩
theorem bt1_z {b : Int32} {k : Nat} (hk : k < 32) : bt1 b (nI k) = 0 ↔ bt b k = false := by
  rw [bt1_bt b hk]
  by_cases q : bt b k = true
  · rw [if_pos q]; exact ⟨fun z => absurd z (by decide), fun z => by rw [q] at z; exact absurd z (by decide)⟩
  · rw [if_neg q]; exact ⟨fun _ => Bool.eq_false_iff.mpr q, fun _ => rfl⟩
theorem tb_lt {s b i : Nat} (h : s < 2 ^ b) (hi : b ≤ i) : s.testBit i = false := Nat.testBit_lt_two_pow (Nat.lt_of_lt_of_le h (Nat.pow_le_pow_right (by decide) hi))
theorem Wd.bt {k x : Nat} {y : Int32} (h : Wd (2 ^ k) y) (hx : k ≤ x) (hi : x < 32) : _root_.Jvm.Pilot.CYesterStreetLaw_law_r8554_bc0834.bt y x = false := by
  obtain ⟨z, hz, rfl⟩ := h
  rw [bt_nI hi]
  exact tb_lt hz hx
theorem fls {n : Nat} {Q : Nat → Prop} : (∀ j, j < n + 1 → Q j) ↔ (∀ j, j < n → Q j) ∧ Q n := by
  constructor
  · intro h; exact ⟨fun j hj => h j (by omega), h n (by omega)⟩
  · rintro ⟨h1, h2⟩ j hj
    by_cases e : j = n
    · subst e; exact h2
    · exact h1 j (by omega)
theorem exs {n : Nat} {Q : Nat → Prop} : (∃ j, j < n + 1 ∧ Q j) ↔ (∃ j, j < n ∧ Q j) ∨ Q n := by
  constructor
  · rintro ⟨j, hj, h⟩
    by_cases e : j = n
    · subst e; exact Or.inr h
    · exact Or.inl ⟨j, by omega, h⟩
  · rintro (⟨j, hj, h⟩ | h)
    · exact ⟨j, by omega, h⟩
    · exact ⟨n, by omega, h⟩
/-! ===== which sets AGREE: the long ===== -/
def ndQ (nd br : Int32) (s j : Nat) : Prop := (bt nd j = true → s.testBit j = true) ∧ (bt br j = true → s.testBit j = false)
theorem bl_setsK {nd br : Int32} {s : Nat} (hs : s < 64) : ∀ n, n ≤ 6 → (bl (setsK nd br n) s = true ↔ ∀ j, j < n → ndQ nd br s j) := by
  intro n
  induction n with
  | zero => intro _; exact ⟨fun _ j hj => absurd hj (Nat.not_lt_zero j), fun _ => bl_m1 s hs⟩
  | succ n ih =>
    intro hn
    have ih' := ih (by omega)
    rw [fls, ← ih']
    have hv := bl_hv n (by omega) s hs
    have e1 := @bt1_1 br n (by omega)
    have e2 := @bt1_1 nd n (by omega)
    unfold ndQ
    simp only [setsK]
    rw [← e1, ← e2]
    by_cases h1 : bt1 br (nI n) = 1 <;> by_cases h2 : bt1 nd (nI n) = 1
    · rw [if_pos h1, if_pos h2, bl_and, bl_and, bl_not hs, hv]
      cases s.testBit n <;> simp [h1, h2]
    · rw [if_pos h1, if_neg h2, bl_and, bl_not hs, hv]
      cases s.testBit n <;> simp [h1, h2]
    · rw [if_neg h1, if_pos h2, bl_and, hv]
      cases s.testBit n <;> simp [h1, h2]
    · rw [if_neg h1, if_neg h2]
      simp [h1, h2]
theorem hld_iff {nd br : Int32} (hn : Wd 64 nd) (hb : Wd 64 br) {s : Nat} : (nd &&& (nI s ^^^ -1) = 0 ∧ br &&& nI s = 0) ↔ ∀ j, j < 6 → ndQ nd br s j := by
  rw [b_zero, b_zero]
  constructor
  · rintro ⟨h1, h2⟩ j hj
    have a := h1 j (by omega)
    have c := h2 j (by omega)
    rw [b_and, b_not (by omega), bt_nI (by omega)] at a
    rw [b_and, bt_nI (by omega)] at c
    unfold ndQ
    revert a c
    cases bt nd j <;> cases bt br j <;> cases s.testBit j <;> simp
  · intro h
    refine ⟨fun i hi => ?_, fun i hi => ?_⟩
    · rw [b_and, b_not hi, bt_nI hi]
      by_cases q : i < 6
      · have := (h i q).1
        revert this
        cases bt nd i <;> cases s.testBit i <;> simp
      · rw [Wd.bt (k := 6) hn (by omega) hi]; rfl
    · rw [b_and, bt_nI hi]
      by_cases q : i < 6
      · have := (h i q).2
        revert this
        cases bt br i <;> cases s.testBit i <;> simp
      · rw [Wd.bt (k := 6) hb (by omega) hi]; rfl
theorem bl_hoF {ah : Int32} {on nd br : Nat → Int32} {k s : Nat} (hs : s < 64) (hn : Wd 64 (nd k)) (hb : Wd 64 (br k)) : bl (hoF ah on nd br k) s = true ↔ hldP ah (on k) (nd k) (br k) (nI s) := by
  unfold hoF
  by_cases h : bt1 ah (on k) = 1
  · rw [if_pos h, bl_0]
    exact ⟨fun z => absurd z (by decide), fun z => by have := z.1; rw [h] at this; exact absurd this (by decide)⟩
  · rw [if_neg h, bl_setsK hs 6 (Nat.le_refl 6), ← hld_iff hn hb]
    have h0 := (bt_01 ah (on k)).resolve_right h
    exact ⟨fun z => ⟨h0, z⟩, fun z => z.2⟩
theorem bl_brgK {ch : Int32} {w : Nat → Nat} {hf bg : Nat → Int64} {s : Nat} {j : Nat} (hj : j < 6) : ∀ n, bl (brgK ch w hf (fillI bg 0 6) n j) s = true ↔ ∃ k, k < n ∧ (bt1 ch (nI k) = 1 ∧ w k = j ∧ bl (hf k) s = true) := by
  intro n
  induction n with
  | zero =>
    have e : brgK ch w hf (fillI bg 0 6) 0 j = 0 := by simp [brgK, fillI, hj]
    rw [e, bl_0]
    exact ⟨fun z => absurd z (by decide), fun ⟨k, hk, _⟩ => absurd hk (Nat.not_lt_zero k)⟩
  | succ n ih =>
    rw [exs, ← ih]
    simp only [brgK]
    by_cases h : bt1 ch (nI n) = 1
    · rw [if_pos h]
      unfold vp_updL
      by_cases e : j = w n
      · rw [if_pos e, bl_or, Bool.or_eq_true, ← e]
        exact ⟨fun z => z.elim Or.inl (fun q => Or.inr ⟨h, rfl, q⟩), fun z => z.elim Or.inl (fun q => Or.inr q.2.2)⟩
      · rw [if_neg e]
        exact ⟨Or.inl, fun z => z.elim id (fun q => absurd q.2.1.symm e)⟩
    · rw [if_neg h]
      exact ⟨Or.inl, fun z => z.elim id (fun q => absurd q.1 h)⟩
theorem bl_agrK {sp : Int32} {bg : Nat → Int64} {s0 : Int64} {s : Nat} (hs : s < 64) : ∀ n, n ≤ 6 → (bl (agrK sp bg s0 n) s = true ↔ bl s0 s = true ∧ ∀ j, j < n → ((¬ bt1 sp (nI j) = 1 ∧ bl (bg j) s = true) ↔ s.testBit j = true)) := by
  intro n
  induction n with
  | zero => intro _; exact ⟨fun h => ⟨h, fun j hj => absurd hj (Nat.not_lt_zero j)⟩, fun h => h.1⟩
  | succ n ih =>
    intro hn
    have ih' := ih (by omega)
    have hv := bl_hv n (by omega) s hs
    rw [fls, ← and_assoc, ← ih']
    simp only [agrK]
    rw [bl_and, bl_not hs, bl_xor, hv, Bool.and_eq_true]
    apply and_congr_right
    intro _
    by_cases h : bt1 sp (nI n) = 1
    · rw [if_pos h, bl_0]
      cases s.testBit n <;> simp [h]
    · rw [if_neg h]
      cases s.testBit n <;> cases bl (bg n) s <;> simp [h]
theorem bl_allS : ∀ nt, nt < 7 → ∀ s, s < 64 → bl (allS nt) s = decide (s < 2 ^ nt) := by decide +kernel
theorem bl_ag {nt rl : Nat} {w : Nat → Nat} {ch sp ah : Int32} {on nd br : Nat → Int32} {s : Nat} (hs : s < 64) (hnt : nt ≤ 6) (hb : ∀ k, k < rl → Wd 64 (nd k) ∧ Wd 64 (br k)) : bl (ag nt rl w ch sp ah on nd br) s = true ↔ s < 2 ^ nt ∧ ∀ j, j < nt → ((¬ bt1 sp (nI j) = 1 ∧ ∃ k, k < rl ∧ (bt1 ch (nI k) = 1 ∧ w k = j ∧ hldP ah (on k) (nd k) (br k) (nI s))) ↔ s.testBit j = true) := by
  unfold ag agr
  rw [bl_agrK hs nt hnt, bl_allS nt (by omega) s hs, decide_eq_true_eq]
  apply and_congr_right
  intro _
  have key : ∀ j, j < nt → (bl (brgK ch w (hoF ah on nd br) (fillI (fun _ => 0) 0 6) rl j) s = true ↔ ∃ k, k < rl ∧ (bt1 ch (nI k) = 1 ∧ w k = j ∧ hldP ah (on k) (nd k) (br k) (nI s))) := by
    intro j hj
    rw [bl_brgK (by omega)]
    constructor
    · rintro ⟨k, hk, h1, h2, h3⟩
      exact ⟨k, hk, h1, h2, (bl_hoF hs (hb k hk).1 (hb k hk).2).mp h3⟩
    · rintro ⟨k, hk, h1, h2, h3⟩
      exact ⟨k, hk, h1, h2, (bl_hoF hs (hb k hk).1 (hb k hk).2).mpr h3⟩
  constructor
  · intro h j hj
    rw [← key j hj]; exact h j hj
  · intro h j hj
    rw [key j hj]; exact h j hj
/-! ===== which sets AGREE: the model ===== -/
theorem bt_orF {p : Nat → Bool} {wr : Nat → Int32} {w : Nat → Nat} {i : Nat} (hi : i < 32) : ∀ n, (∀ k, k < n → wr k = nI (w k) ∧ w k < 32) → (bt (orF p wr n) i = true ↔ ∃ k, k < n ∧ (p k = true ∧ w k = i)) := by
  intro n
  induction n with
  | zero =>
    intro _
    rw [show orF p wr 0 = 0 from rfl, b_0]
    exact ⟨fun z => absurd z (by decide), fun ⟨k, hk, _⟩ => absurd hk (Nat.not_lt_zero k)⟩
  | succ n ih =>
    intro h
    obtain ⟨h1, h2⟩ := h n (by omega)
    rw [exs, ← ih (fun k hk => h k (by omega))]
    simp only [orF]
    by_cases hp : p n = true
    · rw [if_pos hp, b_or, h1, b_pow _ h2 i hi, Bool.or_eq_true, decide_eq_true_eq]
      exact ⟨fun z => z.elim Or.inl (fun q => Or.inr ⟨hp, q⟩), fun z => z.elim Or.inl (fun q => Or.inr q.2)⟩
    · rw [if_neg hp]
      exact ⟨Or.inl, fun z => z.elim id (fun q => absurd q.1 hp)⟩
theorem out_iff {nt rl : Nat} {th : Int32} {f : Nat → Int32} {w : Nat → Nat} {s : Nat} (hnt : nt ≤ 6) (hw : ∀ k, k < rl → f (6 + 4 * k + 1) = nI (w k) ∧ w k < nt) (hs : s < 2 ^ nt) : outM rl th f (nI s) = nI s ↔ ∀ j, j < nt → ((¬ bt1 (f 40) (nI j) = 1 ∧ ∃ k, k < rl ∧ (hldM th f k (nI s) ∧ w k = j)) ↔ s.testBit j = true) := by
  have hb : ∀ i, i < 32 → (bt (outM rl th f (nI s)) i = true ↔ (¬ bt1 (f 40) (nI i) = 1 ∧ ∃ k, k < rl ∧ (hldM th f k (nI s) ∧ w k = i))) := by
    intro i hi
    unfold outM
    rw [b_and, b_not hi, Bool.and_eq_true, bt_orF (wr := rW f) (w := w) hi rl (fun k hk => ⟨(hw k hk).1, by have := (hw k hk).2; omega⟩), bt1_1 hi]
    have e : ∀ k, (hpM th f (nI s) k = true) ↔ hldM th f k (nI s) := fun k => by unfold hpM; exact decide_eq_true_iff
    constructor
    · rintro ⟨⟨k, hk, h1, h2⟩, h3⟩
      refine ⟨fun z => by rw [z] at h3; exact absurd h3 (by decide), k, hk, (e k).mp h1, h2⟩
    · rintro ⟨h3, k, hk, h1, h2⟩
      refine ⟨⟨k, hk, (e k).mpr h1, h2⟩, ?_⟩
      rw [Bool.eq_false_iff.mpr h3]; rfl
  constructor
  · intro h j hj
    rw [← hb j (by omega), h, bt_nI (by omega)]
  · intro h
    apply b_ext
    intro i hi
    rw [bt_nI hi]
    by_cases q : i < nt
    · have h1 := hb i hi
      rw [h i q] at h1
      cases h2 : s.testBit i
      · rw [h2] at h1
        exact Bool.eq_false_iff.mpr (fun z => absurd (h1.mp z) (by decide))
      · rw [h2] at h1
        exact h1.mpr rfl
    · rw [tb_lt hs (by omega)]
      refine Bool.eq_false_iff.mpr (fun z => ?_)
      obtain ⟨-, k, hk, -, h2⟩ := (hb i hi).mp z
      have := (hw k hk).2
      omega
/-- a long and a property of the sets below N say the same -/
def RP (x : Int64) (p : Nat → Bool) (N : Nat) : Prop := ∀ s, s < 64 → bl x s = (decide (s < N) && p s)
def RU (f : Nat → Int32) (nt rl : Nat) (on nd br : Nat → Int32) (w : Nat → Nat) : Prop := ∀ k, k < rl → f (6 + 4 * k) = on k ∧ f (6 + 4 * k + 1) = nI (w k) ∧ f (6 + 4 * k + 2) = nd k ∧ f (6 + 4 * k + 3) = br k ∧ w k < nt ∧ Wd 64 (nd k) ∧ Wd 64 (br k)
theorem ag_RP {nt rl : Nat} {w : Nat → Nat} {ch sp ah th : Int32} {on nd br f : Nat → Int32} (hnt : nt ≤ 6) (hR : RU f nt rl on nd br w) (h39 : f 39 = ah) (h40 : f 40 = sp) (hch : ∀ k, k < rl → (bt1 ch (nI k) = 1 ↔ bt1 th (nI k) = 1)) : RP (ag nt rl w ch sp ah on nd br) (agM rl th f) (2 ^ nt) := by
  intro s hs
  have h1 := bl_ag (nt := nt) (rl := rl) (w := w) (ch := ch) (sp := sp) (ah := ah) (on := on) (nd := nd) (br := br) hs hnt (fun k hk => ⟨(hR k hk).2.2.2.2.2.1, (hR k hk).2.2.2.2.2.2⟩)
  by_cases q : s < 2 ^ nt
  · have h2 := out_iff (th := th) (s := s) hnt (fun k hk => ⟨(hR k hk).2.1, (hR k hk).2.2.2.2.1⟩) q
    have h3 : bl (ag nt rl w ch sp ah on nd br) s = true ↔ outM rl th f (nI s) = nI s := by
      rw [h1, h2]
      have key : ∀ j, (∃ k, k < rl ∧ (bt1 ch (nI k) = 1 ∧ w k = j ∧ hldP ah (on k) (nd k) (br k) (nI s))) ↔ ∃ k, k < rl ∧ (hldM th f k (nI s) ∧ w k = j) := by
        intro j
        constructor
        · rintro ⟨k, hk, a1, a2, a3⟩
          obtain ⟨e1, e2, e3, e4, -⟩ := hR k hk
          refine ⟨k, hk, ⟨(hch k hk).mp a1, ?_⟩, a2⟩
          rw [h39, e1, e3, e4]; exact a3
        · rintro ⟨k, hk, ⟨a1, a3⟩, a2⟩
          obtain ⟨e1, e2, e3, e4, -⟩ := hR k hk
          refine ⟨k, hk, (hch k hk).mpr a1, a2, ?_⟩
          rw [h39, e1, e3, e4] at a3; exact a3
      rw [h40]
      constructor
      · rintro ⟨-, h⟩ j hj
        rw [← key j]; exact h j hj
      · intro h
        refine ⟨q, fun j hj => ?_⟩
        rw [key j]; exact h j hj
    rw [decide_eq_true q, Bool.true_and]
    unfold agM
    by_cases z : outM rl th f (nI s) = nI s
    · rw [decide_eq_true z]; exact h3.mpr z
    · rw [decide_eq_false z]; exact Bool.eq_false_iff.mpr (fun y => z (h3.mp y))
  · rw [decide_eq_false q, Bool.false_and]
    exact Bool.eq_false_iff.mpr (fun z => q (h1.mp z).1)
