/-! the model's reading, third part -/
section RX
variable {b : Nat → Int32} {n : Nat}
theorem tk_lt {p : Nat} (hp : p ≤ n) (h : ¬ tkK b n p = 0) : p < tkN b n p := by
  have hs := tkS_b (b := b) hp
  have h1 : ¬ n ≤ tkS b n p := fun q => h (if_pos q)
  unfold tkN
  rw [if_neg h1]
  split
  · rename_i h2
    rw [run_step (by omega) h2]
    have := run_b (q := qL) (b := b) (n := n) (p := tkS b n p + 1) (by omega)
    omega
  · split
    · rename_i h3
      rw [run_step (by omega) h3]
      have := run_b (q := qD) (b := b) (n := n) (p := tkS b n p + 1) (by omega)
      omega
    · omega
theorem nm_k {tk : Int32} {sa nx i : Nat} (h : nmB tk b sa nx i = true) : tk = 1 := by
  unfold nmB at h
  rw [Bool.and_eq_true, decide_eq_true_eq] at h
  exact h.1.1
theorem nt_k {p : Nat} {v al : Int32} (h : ntC (tkK b n p) v al = 0) : tkK b n p = 2 := by
  unfold ntC numC at h
  apply Decidable.byContradiction
  intro q
  rw [if_neg q] at h
  exact absurd h (show ¬ (2 : Int32) = 0 by decide)
theorem rlP_fuel : ∀ k p, n - p < k → p ≤ n → ∀ k', n - p < k' → ∀ nd br bn nn, rlP b n k p nd br bn nn = rlP b n k' p nd br bn nn := by
  intro k
  induction k with
  | zero => intro p h; exact absurd h (Nat.not_lt_zero _)
  | succ k ih =>
    intro p h hp k' h' nd br bn nn
    cases k' with
    | zero => exact absurd h' (Nat.not_lt_zero _)
    | succ k' =>
      have go : ∀ (hk : ¬ tkK b n p = 0) (a c d e : Int32), rlP b n k (tkN b n p) a c d e = rlP b n k' (tkN b n p) a c d e := by
        intro hk a c d e
        have h1 := tk_lt hp hk
        have h2 := (tkN_b (b := b) hp).2
        exact ih _ (by omega) h2 _ (by omega) a c d e
      rw [rlP, rlP]
      split
      · split
        · rfl
        · split
          · rename_i hq
            exact go (by rw [nm_k hq.1]; decide) _ _ _ _
          · split
            · rename_i hq
              have hk : ¬ tkK b n p = 0 := by rw [nt_k hq]; decide
              split
              · exact go hk _ _ _ _
              · exact go hk _ _ _ _
            · rfl
      · rfl
def rlX (b : Nat → Int32) (n p : Nat) (nd br bn nn : Int32) : (Int32 × Nat) × Int32 × Int32 × Int32 := rlP b n (n + 1 - p) p nd br bn nn
theorem rlX_of {p : Nat} (hp : p ≤ n) (nd br bn nn : Int32) {k : Nat} (hk : n - p < k) : rlP b n k p nd br bn nn = rlX b n p nd br bn nn := rlP_fuel _ _ hk hp _ (by omega) _ _ _ _
theorem rlX_1 {p : Nat} (hp : p ≤ n) (nd br bn nn : Int32) : rlX b n p nd br bn nn = rlP b n ((n - p) + 1) p nd br bn nn := by
  unfold rlX; rw [show n + 1 - p = (n - p) + 1 by omega]
theorem othR_ok {r : Int32 × Nat} {lo hi so : Int32} (h : (othR b n r lo hi so).1 = 0) : r.1 = 0 ∧ tkO b n r.2 = true ∧ nuC b n r.2 lo hi = 0 ∧ ¬ bt1 so (tkV b n r.2 0) = 1 ∧ othR b n r lo hi so = (0, tkN b n r.2) ∧ othV b n r lo hi so = tkV b n r.2 0 := by
  have hv : othV b n r lo hi so = tkV b n r.2 0 := by unfold othV; rw [if_pos h]
  by_cases h1 : r.1 = 0
  · by_cases h2 : tkO b n r.2 = true
    · by_cases h3 : nuC b n r.2 lo hi = 0
      · by_cases h4 : bt1 so (tkV b n r.2 0) = 1
        · rw [oth_bit h1 h2 h3 h4] at h; exact absurd h (show ¬ (4 : Int32) = 0 by decide)
        · exact ⟨h1, h2, h3, h4, oth_ok h1 h2 h3 h4, hv⟩
      · rw [oth_num h1 h2 h3] at h; exact absurd h h3
    · exfalso
      unfold othR andT at h
      rw [if_pos h1, ckT_no h2] at h
      exact absurd h (show ¬ (1 : Int32) = 0 by decide)
  · exfalso
    unfold othR andT at h
    rw [if_neg h1] at h
    exact h1 h
theorem bt_01 (x y : Int32) : bt1 x y = 0 ∨ bt1 x y = 1 := by
  unfold bt1
  obtain ⟨j, hj, e⟩ := pk_andE (x >>> (y &&& 31)) (m := 1) 1 (by decide)
  rw [e]
  rcases (show j = 0 ∨ j = 1 by omega) with rfl | rfl
  · exact Or.inl rfl
  · exact Or.inr rfl
theorem ntC_nu {p : Nat} {al : Int32} : ntC (tkK b n p) (tkV b n p 0) al = if nuC b n p 0 5 = 0 then (if bt1 al (tkV b n p 0) = 0 then 0 else 4) else nuC b n p 0 5 := rfl
theorem rx_note {p : Nat} (hp : p ≤ n) {nd br bn nn so : Int32} (hso : so = nd ||| br) (h2 : ¬ (tkK b n p = 3 ∧ (bn = 0 ∨ ¬ br = 0))) (h3 : ¬ (nmB (tkK b n p) b (tkS b n p) (tkN b n p) 2 = true ∧ bn = 0)) :
    ((othR b n (0, p) 0 5 so).1 = 0 → rlX b n p nd br bn nn = if bn = 0 then rlX b n (tkN b n p) (sb nd (tkV b n p 0)) br bn (sb nn (tkV b n p 0)) else rlX b n (tkN b n p) nd (sb br (tkV b n p 0)) bn (sb nn (tkV b n p 0))) ∧
    (¬ (othR b n (0, p) 0 5 so).1 = 0 → (rlX b n p nd br bn nn).1 = othR b n (0, p) 0 5 so) := by
  subst hso
  constructor
  · intro h
    obtain ⟨-, hO, hn, hb, -, -⟩ := othR_ok h
    have hk : ntC (tkK b n p) (tkV b n p 0) (nd ||| br) = 0 := by
      rw [ntC_nu, if_pos hn, if_pos ((bt_01 _ _).resolve_right hb)]
    have h0 : ¬ tkK b n p = 0 := by rw [nt_k hk]; decide
    have h1 := tk_lt hp h0
    have h2' := (tkN_b (b := b) hp).2
    rw [rlX_1 hp]
    by_cases e : bn = 0
    · rw [if_pos e, rl_need hO h2 h3 hk e, rlX_of (k := n - p) h2' _ _ _ _ (by omega)]; simp only [sb]
    · rw [if_neg e, rl_bar hO h2 h3 hk e, rlX_of (k := n - p) h2' _ _ _ _ (by omega)]; simp only [sb]
  · intro h
    rw [rlX_1 hp]
    by_cases hO : tkO b n p = true
    · have e : othR b n (0, p) 0 5 (nd ||| br) = (ntC (tkK b n p) (tkV b n p 0) (nd ||| br), tkS b n p) := by
        unfold othR
        rw [andT_ok rfl hO]
        unfold othK
        rw [ntC_nu]
        by_cases h5 : nuC b n p 0 5 = 0
        · rw [if_pos h5, if_pos h5]
          by_cases h6 : bt1 (nd ||| br) (tkV b n p 0) = 1
          · rw [if_pos h6, if_neg (by rw [h6]; decide)]
          · exact absurd (congrArg Prod.fst (oth_ok (r := (0, p)) (so := nd ||| br) rfl hO h5 h6)) h
        · rw [if_neg h5, if_neg h5]
      have hk : ¬ ntC (tkK b n p) (tkV b n p 0) (nd ||| br) = 0 := by rw [e] at h; exact h
      rw [rl_bad hO h2 h3 hk, e]
    · rw [rl_tok hO]
      unfold othR andT
      rw [if_pos rfl, ckT_no hO]
theorem rx_end {p : Nat} (hp : p ≤ n) {nd br bn nn : Int32} (h1 : ¬ (tkO b n p = true ∧ tkK b n p = 2)) (h2 : ¬ (tkO b n p = true ∧ nmB (tkK b n p) b (tkS b n p) (tkN b n p) 2 = true ∧ bn = 0)) (h3 : bn = 0 ∨ ¬ br = 0) :
    rlX b n p nd br bn nn = (andT b n (0, p) (clK b n p), nd, br, nn) := by
  rw [rlX_1 hp]
  by_cases hO : tkO b n p = true
  · rw [andT_ok rfl hO]
    unfold clK
    by_cases hk : tkK b n p = 3
    · rw [rl_close hO ⟨hk, h3⟩, if_pos hk]
    · have hk2 : ¬ tkK b n p = 2 := fun q => h1 ⟨hO, q⟩
      have hc : ntC (tkK b n p) (tkV b n p 0) (nd ||| br) = 2 := by rw [ntC_nu, nu_2 hk2]; rfl
      have hz : ¬ ntC (tkK b n p) (tkV b n p 0) (nd ||| br) = 0 := by rw [hc]; decide
      rw [rl_bad hO (fun q => hk q.1) (fun q => h2 ⟨hO, q⟩) hz, hc, if_neg hk]
  · rw [rl_tok hO]
    unfold andT
    rw [if_pos rfl, ckT_no hO]
theorem rx_name {p : Nat} (hp : p ≤ n) {nd nn : Int32} (hO : tkO b n p = true) (h : nmB (tkK b n p) b (tkS b n p) (tkN b n p) 2 = true) : rlX b n p nd 0 0 nn = rlX b n (tkN b n p) nd 0 1 nn := by
  have h0 : ¬ tkK b n p = 0 := by rw [nm_k h]; decide
  have h1 := tk_lt hp h0
  have h2 := (tkN_b (b := b) hp).2
  rw [rlX_1 hp, rl_not hO (fun q => by rw [nm_k h] at q; exact absurd q.1 (by decide)) ⟨h, rfl⟩, rlX_of (k := n - p) (tkN_b (b := b) hp).2 _ _ _ _ (by omega)]
end RX
def Wd (k : Nat) (x : Int32) : Prop := ∃ y, y < k ∧ x = nI y
def hib (x : Int32) : Int32 := if x = 0 then -1 else if x < 2 then 0 else if x < 4 then 1 else if x < 8 then 2 else if x < 16 then 3 else if x < 32 then 4 else 5
theorem hib_setN : ∀ x, x < 64 → ∀ v, v < 6 → hib (sb (nI x) (nI v)) = if nI v ≤ hib (nI x) then hib (nI x) else nI v := by decide +kernel
theorem hib_ltN : ∀ x, x < 64 → ∀ k, k < 7 → 0 < k → (nI x >>> (nI k &&& 31) = 0 ↔ hib (nI x) < nI k) := by decide +kernel
theorem sb_WN : ∀ x, x < 64 → ∀ v, v < 6 → (sb (nI x) (nI v)).toNatClampNeg < 64 ∧ sb (nI x) (nI v) = nI (sb (nI x) (nI v)).toNatClampNeg ∧ ¬ sb (nI x) (nI v) = 0 := by decide +kernel
theorem sb_W16 : ∀ x, x < 16 → ∀ v, v < 4 → (sb (nI x) (nI v)).toNatClampNeg < 16 ∧ sb (nI x) (nI v) = nI (sb (nI x) (nI v)).toNatClampNeg := by decide +kernel
theorem Wd.sb {x v : Int32} (h : Wd 64 x) (hv : Wd 6 v) : Wd 64 (sb x v) ∧ ¬ sb x v = 0 := by
  obtain ⟨a, ha, rfl⟩ := h
  obtain ⟨c, hc, rfl⟩ := hv
  have := sb_WN a ha c hc
  exact ⟨⟨_, this.1, this.2.1⟩, this.2.2⟩
theorem Wd.sb16 {x v : Int32} (h : Wd 16 x) (hv : Wd 4 v) : Wd 16 (_root_.Jvm.Pilot.CYesterStreetLaw_law_r8554_bc0834.sb x v) := by
  obtain ⟨a, ha, rfl⟩ := h
  obtain ⟨c, hc, rfl⟩ := hv
  have := sb_W16 a ha c hc
  exact ⟨_, this.1, this.2⟩
theorem hib_set {x v : Int32} (h : Wd 64 x) (hv : Wd 6 v) : (if v ≤ hib x then hib x else v) = hib (sb x v) := by
  obtain ⟨a, ha, rfl⟩ := h
  obtain ⟨c, hc, rfl⟩ := hv
  exact (hib_setN a ha c hc).symm
theorem nu_W {b : Nat → Int32} {n p : Nat} (h : nuC b n p 0 5 = 0) : Wd 6 (tkV b n p 0) := by
  obtain ⟨k, hk, e⟩ := nuC_N (hi := 5) (by decide) (by decide) h
  exact ⟨k, by omega, e⟩
theorem nu_W4 {b : Nat → Int32} {n p : Nat} (h : nuC b n p 0 3 = 0) : Wd 4 (tkV b n p 0) := by
  obtain ⟨k, hk, e⟩ := nuC_N (hi := 3) (by decide) (by decide) h
  exact ⟨k, by omega, e⟩
def QP (A : Nat) (v1 v2 nd br : Int32) (pg g : Nat → Int32) : Prop := ∀ j, g j = if j = A then v1 else if j = A + 1 then v2 else if j = A + 2 then nd else if j = A + 3 then br else pg j
section QPs
variable {A : Nat} {v1 v2 nd br : Int32} {pg g : Nat → Int32}
theorem QP_ini : QP A v1 v2 0 0 pg (upd (upd (upd (upd pg A v1) (A + 1) v2) (A + 2) 0) (A + 3) 0) := by
  intro j
  simp only [upd]
  repeat' split
  all_goals first | rfl | omega
theorem QP_nd (x : Int32) (h : QP A v1 v2 nd br pg g) : QP A v1 v2 x br pg (upd g (A + 2) x) := by
  intro j
  have := h j
  simp only [upd]
  split
  · rename_i e
    rw [if_neg (by omega), if_neg (by omega)]
  · rename_i e
    rw [this, if_neg e]
theorem QP_br (x : Int32) (h : QP A v1 v2 nd br pg g) : QP A v1 v2 nd x pg (upd g (A + 3) x) := by
  intro j
  have := h j
  simp only [upd]
  split
  · rename_i e
    rw [if_neg (by omega), if_neg (by omega), if_neg (by omega)]
  · rename_i e
    rw [this, if_neg e]
theorem QP_2 (h : QP A v1 v2 nd br pg g) : g (A + 2) = nd := by rw [h, if_neg (by omega), if_neg (by omega), if_pos rfl]
theorem QP_3 (h : QP A v1 v2 nd br pg g) : g (A + 3) = br := by rw [h, if_neg (by omega), if_neg (by omega), if_neg (by omega), if_pos rfl]
theorem QP_38 (h : QP A v1 v2 nd br pg g) (hA : A + 3 < 38) : g 38 = pg 38 := by rw [h, if_neg (by omega), if_neg (by omega), if_neg (by omega), if_neg (by omega)]
end QPs
def mes (n : Nat) (r : Int32 × Nat) : Nat := if r.1 = 0 then n + 1 - r.2 else 0
theorem mes_lt {b : Nat → Int32} {n : Nat} {r : Int32 × Nat} {so : Int32} (hn : r.1 = 0 → r.2 ≤ n) (h : (othR b n r 0 5 so).1 = 0 ∨ r.1 = 0) : mes n (othR b n r 0 5 so) < mes n r := by
  unfold mes
  by_cases e : (othR b n r 0 5 so).1 = 0
  · obtain ⟨h1, hO, h5, -, e2, -⟩ := othR_ok e
    rw [if_pos e, if_pos h1, e2]
    have hk := (nuC_ok h5).1
    have h2 := tk_lt (b := b) (hn h1) (by rw [hk]; decide)
    have h3 := hn h1
    simp only
    omega
  · have h1 := h.resolve_left e
    rw [if_neg e, if_pos h1]
    have := hn h1
    omega
