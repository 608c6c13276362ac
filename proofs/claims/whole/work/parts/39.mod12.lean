/-! all lines: laws -/
section POS
variable {b : Nat → Int32} {n p : Nat}
theorem oth_pos {r : Int32 × Nat} {lo hi so : Int32} (hr : r.1 = 0 → r.2 ≤ n) (h : (othR b n r lo hi so).1 = 0) : r.2 ≤ (othR b n r lo hi so).2 ∧ (othR b n r lo hi so).2 ≤ n := by
  obtain ⟨h1, -, -, -, e, -⟩ := othR_ok h
  rw [e]
  have := tkS_b (b := b) (hr h1)
  have := tkN_b (b := b) (hr h1)
  simp only
  omega
theorem and_pos {r : Int32 × Nat} (hr : r.1 = 0 → r.2 ≤ n) (h : (andT b n r (clK b n r.2)).1 = 0) : r.1 = 0 ∧ r.2 ≤ (andT b n r (clK b n r.2)).2 ∧ (andT b n r (clK b n r.2)).2 ≤ n := by
  by_cases h1 : r.1 = 0
  · refine ⟨h1, ?_⟩
    unfold andT at h ⊢
    rw [if_pos h1] at h ⊢
    by_cases hO : tkO b n r.2 = true
    · unfold ckT at h ⊢
      rw [if_pos hO] at h ⊢
      unfold clK at h ⊢
      split
      · have := tkS_b (b := b) (hr h1)
        have := tkN_b (b := b) (hr h1)
        simp only
        omega
      · rename_i h3
        rw [if_neg h3] at h
        exact absurd h (show ¬ (2 : Int32) = 0 by decide)
    · rw [ckT_no hO] at h
      exact absurd h (show ¬ (1 : Int32) = 0 by decide)
  · rw [andT_no h1] at h
    exact absurd h h1
theorem rlP_pos : ∀ k p nd br bn nn, p ≤ n → (rlP b n k p nd br bn nn).1.1 = 0 → p ≤ (rlP b n k p nd br bn nn).1.2 ∧ (rlP b n k p nd br bn nn).1.2 ≤ n := by
  intro k
  induction k with
  | zero => intro p nd br bn nn _ h; exact absurd h (show ¬ (2 : Int32) = 0 by decide)
  | succ k ih =>
    intro p nd br bn nn hp h
    have h1 := tkS_b (b := b) hp
    have h2 := tkN_b (b := b) hp
    have up : ∀ a c d e, (rlP b n k (tkN b n p) a c d e).1.1 = 0 → p ≤ (rlP b n k (tkN b n p) a c d e).1.2 ∧ (rlP b n k (tkN b n p) a c d e).1.2 ≤ n := fun a c d e q => by
      have := ih _ a c d e h2.2 q
      omega
    rw [rlP] at h ⊢
    split
    · rename_i c1
      rw [if_pos c1] at h
      split
      · simp only
        omega
      · rename_i c2
        rw [if_neg c2] at h
        split
        · rename_i c3
          rw [if_pos c3] at h
          exact up _ _ _ _ h
        · rename_i c3
          rw [if_neg c3] at h
          split
          · rename_i c4
            rw [if_pos c4] at h
            split
            · rename_i c5; rw [if_pos c5] at h; exact up _ _ _ _ h
            · rename_i c5; rw [if_neg c5] at h; exact up _ _ _ _ h
          · rename_i c4
            rw [if_neg c4] at h
            exact absurd h c4
    · rename_i c1
      rw [if_neg c1] at h
      exact absurd h (show ¬ (1 : Int32) = 0 by decide)
theorem rlP_W : ∀ k p nd br bn nn, Wd 64 nd → Wd 64 br → Wd 64 nn → Wd 64 (rlP b n k p nd br bn nn).2.1 ∧ Wd 64 (rlP b n k p nd br bn nn).2.2.1 ∧ Wd 64 (rlP b n k p nd br bn nn).2.2.2 := by
  intro k
  induction k with
  | zero => intro p nd br bn nn h1 h2 h3; exact ⟨h1, h2, h3⟩
  | succ k ih =>
    intro p nd br bn nn h1 h2 h3
    rw [rlP]
    split
    · split
      · exact ⟨h1, h2, h3⟩
      · split
        · exact ih _ _ _ _ _ h1 h2 h3
        · split
          · rename_i c4
            have hv := nu_W (nt_ok c4).2.2
            split
            · exact ih _ _ _ _ _ (Wd.sb h1 hv).1 h2 (Wd.sb h3 hv).1
            · exact ih _ _ _ _ _ h1 (Wd.sb h2 hv).1 (Wd.sb h3 hv).1
          · exact ⟨h1, h2, h3⟩
    · exact ⟨h1, h2, h3⟩
theorem two_pos {lo hi lo2 hi2 so : Int32} (hp : p ≤ n) (h : (andT b n (othR b n (othR b n (0, p) lo hi so) lo2 hi2 0) (clK b n (othR b n (othR b n (0, p) lo hi so) lo2 hi2 0).2)).1 = 0) :
    (p ≤ (andT b n (othR b n (othR b n (0, p) lo hi so) lo2 hi2 0) (clK b n (othR b n (othR b n (0, p) lo hi so) lo2 hi2 0).2)).2 ∧ (andT b n (othR b n (othR b n (0, p) lo hi so) lo2 hi2 0) (clK b n (othR b n (othR b n (0, p) lo hi so) lo2 hi2 0).2)).2 ≤ n) ∧ nuC b n p lo hi = 0 ∧ nuC b n (tkN b n p) lo2 hi2 = 0 := by
  have k1 : (othR b n (0, p) lo hi so).1 = 0 → (othR b n (0, p) lo hi so).2 ≤ n := fun q => (oth_pos (r := (0, p)) (fun _ => hp) q).2
  have k2 : (othR b n (othR b n (0, p) lo hi so) lo2 hi2 0).1 = 0 → (othR b n (othR b n (0, p) lo hi so) lo2 hi2 0).2 ≤ n := fun q => (oth_pos k1 q).2
  obtain ⟨a1, a2, a3⟩ := and_pos k2 h
  obtain ⟨z1, -, z3, -, -, -⟩ := othR_ok a1
  obtain ⟨-, -, y3, -, y5, -⟩ := othR_ok z1
  have c1 := oth_pos k1 a1
  have c2 := oth_pos (r := (0, p)) (fun _ => hp) z1
  rw [y5] at z3
  refine ⟨⟨?_, a3⟩, y3, z3⟩
  have : p ≤ (othR b n (0, p) lo hi so).2 := c2.1
  omega
theorem one_pos {lo hi so : Int32} (hp : p ≤ n) (h : (andT b n (othR b n (0, p) lo hi so) (clK b n (othR b n (0, p) lo hi so).2)).1 = 0) :
    (p ≤ (andT b n (othR b n (0, p) lo hi so) (clK b n (othR b n (0, p) lo hi so).2)).2 ∧ (andT b n (othR b n (0, p) lo hi so) (clK b n (othR b n (0, p) lo hi so).2)).2 ≤ n) ∧ nuC b n p lo hi = 0 := by
  have k1 : (othR b n (0, p) lo hi so).1 = 0 → (othR b n (0, p) lo hi so).2 ≤ n := fun q => (oth_pos (r := (0, p)) (fun _ => hp) q).2
  obtain ⟨a1, a2, a3⟩ := and_pos k1 h
  obtain ⟨-, -, y3, -, y5, -⟩ := othR_ok a1
  have c2 := oth_pos (r := (0, p)) (fun _ => hp) a1
  have : p ≤ (othR b n (0, p) lo hi so).2 := c2.1
  exact ⟨⟨by omega, a3⟩, y3⟩
theorem rc_pos {nn : Int32} (hp : p ≤ n) (h : (rcC b n p nn).1 = 0) : (p ≤ (rcC b n p nn).2 ∧ (rcC b n p nn).2 ≤ n) ∧ nuC b n p 0 3 = 0 ∧ nuC b n (tkN b n p) 0 5 = 0 := by
  by_cases e : (rc2 b n p).1 = 0
  · have a := (rc_ok (nn := nn) hp e).1
    rw [a] at h ⊢
    obtain ⟨z1, -, z3, -, -, -⟩ := othR_ok e
    obtain ⟨-, -, y3, -, y5, -⟩ := othR_ok (r := (0, p)) z1
    have h1 := tkN_b (b := b) hp
    have h0 := tkS_b (b := b) hp
    have h2 := tkN_b (b := b) h1.2
    have h3 := tkS_b (b := b) h1.2
    have := rlP_pos _ _ _ _ _ _ h2.2 h
    have e1 : rc1 b n p = (0, tkN b n p) := y5
    rw [e1] at z3
    refine ⟨?_, y3, z3⟩
    have t : tkN b n (tkN b n p) ≤ (rlR b n p nn).1.2 ∧ (rlR b n p nn).1.2 ≤ n := this
    omega
  · rw [rc_no e] at h
    exact absurd h e
end POS
theorem nu_in {b : Nat → Int32} {n p lo hi : Nat} (hh : hi < 2 ^ 30) (hl : lo < 2 ^ 30) (h : nuC b n p (nI lo) (nI hi) = 0) : lo ≤ (tkV b n p 0).toNatClampNeg ∧ (tkV b n p 0).toNatClampNeg ≤ hi := by
  obtain ⟨-, h1, h2⟩ := nuC_ok h
  obtain ⟨k, hk, e⟩ := nuC_N (hi := hi) (nI_pos' (by omega)) hh h
  rw [e] at h1 ⊢
  rw [nI_clamp (by omega)]
  refine ⟨?_, hk⟩
  apply Decidable.byContradiction
  intro q
  exact h1 ((nI_ltI (by omega) (by omega)).mpr (by omega))
theorem wo_in : ∀ k, k < 10 → (¬ (1 : Int32) * nI k < -9 ∧ (1 : Int32) * nI k ≤ 9) ∧ (¬ (-1 : Int32) * nI k < -9 ∧ (-1 : Int32) * nI k ≤ 9) := by decide +kernel
theorem x_of {tk : Int32} {b : Nat → Int32} {n sa nx : Nat} {s : PS} (h : (lnC b n tk sa nx s).1 = 0) : (nmI tk b sa nx = 0 ∨ nmI tk b sa nx = 1 ∨ nmI tk b sa nx = 2 ∨ nmI tk b sa nx = 3 ∨ nmI tk b sa nx = 4 ∨ nmI tk b sa nx = 5 ∨ nmI tk b sa nx = 6) ∧ (nmI tk b sa nx = 0 → s.th = 0) ∧ (nmI tk b sa nx = 1 → s.rl < 8) := by
  rw [lnC_X.1] at h
  refine ⟨?_, ?_, ?_⟩
  · apply Decidable.byContradiction
    intro q
    simp only [not_or] at q
    unfold lnX at h
    rw [if_neg q.1, if_neg q.2.1, if_neg q.2.2.1, if_neg q.2.2.2.1, if_neg q.2.2.2.2.1, if_neg q.2.2.2.2.2.1, if_neg q.2.2.2.2.2.2] at h
    exact absurd h (show ¬ (2 : Int32) = 0 by decide)
  · intro e
    rw [e] at h
    apply Decidable.byContradiction
    intro q
    have h' : (lnStreet b n nx sa s.th).1 = 0 := h
    unfold lnStreet at h'
    rw [if_neg q] at h'
    exact absurd h' (show ¬ (4 : Int32) = 0 by decide)
  · intro e
    rw [e] at h
    apply Decidable.byContradiction
    intro q
    have h' : (lnRule b n nx sa s.rl s.tN).1 = 0 := h
    unfold lnRule at h'
    rw [if_neg q] at h'
    exact absurd h' (show ¬ (5 : Int32) = 0 by decide)
theorem lnC_ml {tk : Int32} {b : Nat → Int32} {n sa nx : Nat} {s : PS} (h : (lnC b n tk sa nx s).1 = 0) : lnC b n tk sa nx s = mlC b n nx (nmI tk b sa nx) s := by
  obtain ⟨a, c, d⟩ := x_of h
  exact lnC_X.1.trans (lnX_ml a c d)
theorem ml_pos {b : Nat → Int32} {n p : Nat} {x : Int32} {s : PS} (hp : p ≤ n) (hx : x = 0 ∨ x = 1 ∨ x = 2 ∨ x = 3 ∨ x = 4 ∨ x = 5 ∨ x = 6) (h : (mlC b n p x s).1 = 0) (h1 : x = 1 → s.rl < 8) (hg : GS s) : (p ≤ (mlC b n p x s).2 ∧ (mlC b n p x s).2 ≤ n) ∧ GS (mlP b n p x s) := by
  obtain ⟨g1, g2, g3, g4, g5, g6, g7, g8, g9, g10⟩ := hg
  have wW : ∀ sg, (sg = 1 ∨ sg = -1) → (lnWorth b n p s.tpd).1 = 0 → (p ≤ (lnWorth b n p s.tpd).2 ∧ (lnWorth b n p s.tpd).2 ≤ n) ∧ GS (psWorth b n p s sg) := by
    intro sg hsg hh
    rw [lw_eq] at hh ⊢
    obtain ⟨a1, a2, a3⟩ := two_pos hp hh
    have hv := nu_W a2
    obtain ⟨k, hk, e⟩ := nuC_N (hi := 9) (by decide) (by decide) a3
    refine ⟨a1, g1, (Wd.sb g2 hv).1, g3, g4, g5, g6, g7, g8, g9, ?_⟩
    intro j hj
    show ¬ upd s.wo (tkV b n p 0).toNatClampNeg (sg * tkV b n (tkN b n p) 0) j < -9 ∧ upd s.wo (tkV b n p 0).toNatClampNeg (sg * tkV b n (tkN b n p) 0) j ≤ 9
    simp only [upd]
    split
    · rw [e]
      rcases hsg with rfl | rfl
      · exact (wo_in k (by omega)).1
      · exact (wo_in k (by omega)).2
    · exact g10 j hj
  rcases hx with rfl | rfl | rfl | rfl | rfl | rfl | rfl
  · have hC : mlC b n p 0 s = ckN b n p 1 6 (ckN b n (tkN b n p) 1 4 (ckC b n (tkN b n (tkN b n p)))) := rfl
    rw [hC, lst_eq] at h ⊢
    obtain ⟨a1, a2, a3⟩ := two_pos hp h
    have b1 := nu_in (lo := 1) (hi := 6) (by decide) (by decide) a2
    have b2 := nu_in (lo := 1) (hi := 4) (by decide) (by decide) a3
    exact ⟨a1, Or.inr rfl, g2, g3, g4, g5, g6, g7, ⟨b1.1, b1.2, b2.1, b2.2⟩, g9, g10⟩
  · have hC : mlC b n p 1 s = rcC b n p s.tN := rfl
    rw [hC] at h ⊢
    obtain ⟨a1, a2, a3⟩ := rc_pos hp h
    have hw := rlP_W (b := b) (n := n) (n + 1) (tkN b n (tkN b n p)) 0 0 0 (sb s.tN (tkV b n (tkN b n p) 0)) ⟨0, by decide, rfl⟩ ⟨0, by decide, rfl⟩ (Wd.sb g2 (nu_W a3)).1
    have hr := h1 rfl
    refine ⟨a1, g1, hw.2.2, Wd.sb16 g3 (nu_W4 a2), g4, g5, g6, hr, g8, ?_, g10⟩
    intro k hk
    have hk9 : k < s.rl + 1 := hk
    show Wd 4 (upd s.on s.rl (tkV b n p 0) k) ∧ Wd 6 (upd s.wr s.rl (tkV b n (tkN b n p) 0) k) ∧ Wd 64 (upd s.nd s.rl (rlR b n p s.tN).2.1 k) ∧ Wd 64 (upd s.br s.rl (rlR b n p s.tN).2.2.1 k)
    simp only [upd]
    by_cases e : k = s.rl
    · rw [if_pos e, if_pos e, if_pos e, if_pos e]
      exact ⟨nu_W4 a2, nu_W a3, hw.1, hw.2.1⟩
    · rw [if_neg e, if_neg e, if_neg e, if_neg e]
      exact g9 k (by omega)
  · exact wW 1 (Or.inl rfl) h
  · exact wW (-1) (Or.inr rfl) h
  · have hC : mlC b n p 4 s = lnHome b n p s.hm := rfl
    rw [hC, lhm_eq] at h ⊢
    obtain ⟨a1, a2⟩ := one_pos hp h
    exact ⟨a1, g1, g2, Wd.sb16 g3 (nu_W4 a2), Wd.sb16 g4 (nu_W4 a2), g5, g6, g7, g8, g9, g10⟩
  · have hC : mlC b n p 5 s = lnStop b n p s.sp := rfl
    rw [hC, lsp_eq] at h ⊢
    obtain ⟨a1, a2⟩ := one_pos hp h
    exact ⟨a1, g1, (Wd.sb g2 (nu_W a2)).1, g3, g4, (Wd.sb g5 (nu_W a2)).1, g6, g7, g8, g9, g10⟩
  · have hC : mlC b n p 6 s = lnStop b n p s.td := rfl
    rw [hC, lsp_eq] at h ⊢
    obtain ⟨a1, a2⟩ := one_pos hp h
    exact ⟨a1, g1, (Wd.sb g2 (nu_W a2)).1, g3, g4, g5, (Wd.sb g6 (nu_W a2)).1, g7, g8, g9, g10⟩
theorem ln_pos {tk : Int32} {b : Nat → Int32} {n sa nx : Nat} {s : PS} (hp : nx ≤ n) (h : (lnC b n tk sa nx s).1 = 0) (hg : GS s) : (nx ≤ (lnC b n tk sa nx s).2 ∧ (lnC b n tk sa nx s).2 ≤ n) ∧ GS (lnP b n tk sa nx s) := by
  obtain ⟨a, c, d⟩ := x_of h
  have e := lnC_ml h
  rw [e] at h ⊢
  rw [lnC_X.2]
  exact ml_pos hp a h d hg
theorem lnAll_fuel {b : Nat → Int32} {n : Nat} : ∀ k p, n - p < k → p ≤ n → ∀ k', n - p < k' → ∀ s c, GS s → lnAll b n k p s c = lnAll b n k' p s c := by
  intro k
  induction k with
  | zero => intro p h; exact absurd h (Nat.not_lt_zero _)
  | succ k ih =>
    intro p h hp k' h' s c hg
    cases k' with
    | zero => exact absurd h' (Nat.not_lt_zero _)
    | succ k' =>
      by_cases c1 : tkO b n p = true
      · by_cases c2 : tkK b n p = 0
        · rw [la_end c1 c2, la_end c1 c2]
        · by_cases c3 : (lnC b n (tkK b n p) (tkS b n p) (tkN b n p) s).1 = 0
          · rw [la_go c1 c2 c3, la_go c1 c2 c3]
            have h1 := tk_lt hp c2
            have h2 := ln_pos (tkN_b (b := b) hp).2 c3 hg
            exact ih _ (by omega) h2.1.2 _ (by omega) _ _ h2.2
          · rw [la_bad c1 c2 c3, la_bad c1 c2 c3]
      · rw [la_tok c1, la_tok c1]
def laX (b : Nat → Int32) (n p : Nat) (s : PS) (c : Nat) : (Int32 × Nat) × PS × Nat := lnAll b n (n + 1 - p) p s c
theorem laX_go {b : Nat → Int32} {n p c : Nat} {s : PS} (hp : p ≤ n) (hg : GS s) (c1 : tkO b n p = true) (c2 : ¬ tkK b n p = 0) (c3 : (lnC b n (tkK b n p) (tkS b n p) (tkN b n p) s).1 = 0) : laX b n p s c = laX b n (lnC b n (tkK b n p) (tkS b n p) (tkN b n p) s).2 (lnP b n (tkK b n p) (tkS b n p) (tkN b n p) s) (c + 1) := by
  have h1 := tk_lt hp c2
  have h2 := ln_pos (tkN_b (b := b) hp).2 c3 hg
  unfold laX
  rw [show n + 1 - p = (n - p) + 1 by omega, la_go c1 c2 c3]
  exact lnAll_fuel _ _ (by omega) h2.1.2 _ (by omega) _ _ h2.2
theorem laX_1 {b : Nat → Int32} {n p c : Nat} {s : PS} (hp : p ≤ n) : laX b n p s c = lnAll b n ((n - p) + 1) p s c := by
  unfold laX; rw [show n + 1 - p = (n - p) + 1 by omega]
theorem end_F {s : PS} (hg : GS s) : endF s = if hib s.tN < nI s.kn then (if hib s.tO < nI s.kp then 0 else 7) else 6 := by
  obtain ⟨x, hx, ex⟩ := hg.2.1
  obtain ⟨y, hy, ey⟩ := hg.2.2.1
  have hk := hg.2.2.2.2.2.2.2.1
  unfold endF
  rw [ex, ey]
  by_cases c1 : hib (nI x) < nI s.kn
  · rw [if_pos c1, if_pos ((hib_ltN x hx s.kn (by omega) (by omega)).mpr c1)]
    by_cases c2 : hib (nI y) < nI s.kp
    · rw [if_pos c2, if_pos ((hib_ltN y (by omega) s.kp (by omega) (by omega)).mpr c2)]
    · rw [if_neg c2, if_neg (fun q => c2 ((hib_ltN y (by omega) s.kp (by omega) (by omega)).mp q))]
  · rw [if_neg c1, if_neg (fun q => c1 ((hib_ltN x hx s.kn (by omega) (by omega)).mp q))]
theorem tk_end {b : Nat → Int32} {n p : Nat} (hp : p ≤ n) (h : tkK b n p = 0) : tkS b n p = n := by
  have hs := tkS_b (b := b) hp
  have : n ≤ tkS b n p := by
    apply Decidable.byContradiction
    intro q
    unfold tkK at h
    rw [if_neg q] at h
    revert h
    split
    · decide
    · split
      · decide
      · decide
  omega
