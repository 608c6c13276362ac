/-! ===== the answers, class and model ===== -/
theorem in01 {x : Int32} : (¬ x < 0 ∧ ¬ 1 < x) ↔ (x = 0 ∨ x = 1) := okC
theorem inR {x a b : Int32} {α : Type} {u v : α} : (if x < a then v else if x ≤ b then u else v) = if ¬ x < a ∧ ¬ b < x then u else v := by
  by_cases h1 : x < a
  · rw [if_pos h1, if_neg (fun q => q.1 h1)]
  · rw [if_neg h1]
    by_cases h2 : x ≤ b
    · rw [if_pos h2, if_pos ⟨h1, Int32.not_lt.mpr h2⟩]
    · rw [if_neg h2, if_neg (fun q => h2 (Int32.not_lt.mp q.2))]
theorem inS {x a b : Int32} {α : Type} {u v : α} : (if x < a then v else if b < x then v else u) = if ¬ x < a ∧ ¬ b < x then u else v := by
  by_cases h1 : x < a
  · rw [if_pos h1, if_neg (fun q => q.1 h1)]
  · rw [if_neg h1]
    by_cases h2 : b < x
    · rw [if_pos h2, if_neg (fun q => q.2 h2)]
    · rw [if_neg h2, if_pos ⟨h1, h2⟩]
theorem orF_cong {p q : Nat → Bool} {wr vr : Nat → Int32} : ∀ n, (∀ k, k < n → p k = q k ∧ wr k = vr k) → orF p wr n = orF q vr n := by
  intro n
  induction n with
  | zero => intro _; rfl
  | succ n ih =>
    intro h
    simp only [orF]
    rw [ih (fun k hk => h k (by omega)), (h n (by omega)).1, (h n (by omega)).2]
theorem th255 : ∀ k, k < 8 → bt1 255 (nI k) = 1 := by decide +kernel
section ST
variable {f on wr nd br wo : Nat → Int32} {nt rl : Nat} {hm sp td dt : Int32} {w : Nat → Nat}
theorem hp_M (hrl : rl ≤ 8) (hR : RU f nt rl on nd br w) (h39 : f 39 = hm) (s : Int32) : ∀ k, k < rl → hp hm on nd br s k = hpM 255 f s k := by
  intro k hk
  obtain ⟨e1, e2, e3, e4, -⟩ := hR k hk
  have e : hldP hm (on k) (nd k) (br k) s ↔ hldM 255 f k s := by
    show _ ↔ (bt1 255 (nI k) = 1 ∧ hldP (f 39) (f (6 + 4 * k)) (f (6 + 4 * k + 2)) (f (6 + 4 * k + 3)) s)
    rw [h39, e1, e3, e4]
    exact ⟨fun z => ⟨th255 k (by omega), z⟩, fun z => z.2⟩
  unfold hp hpM
  by_cases z : hldM 255 f k s
  · rw [decide_eq_true z, decide_eq_true (e.mpr z)]
  · rw [decide_eq_false z, decide_eq_false (fun y => z (e.mp y))]
theorem out_M (hrl : rl ≤ 8) (hR : RU f nt rl on nd br w) (hw : ∀ k, k < rl → wr k = nI (w k)) (h39 : f 39 = hm) (h40 : f 40 = sp) (s : Int32) : outc rl hm sp on wr nd br s = outM rl 255 f s := by
  unfold outc outM
  rw [h40, orF_cong rl (fun k hk => ⟨hp_M hrl hR h39 s k hk, (hw k hk).trans (hR k hk).2.1.symm⟩)]
  rfl
theorem wrt_M (hrl : rl ≤ 8) (hR : RU f nt rl on nd br w) (hw : ∀ k, k < rl → wr k = nI (w k)) (h39 : f 39 = hm) (s n : Int32) : wrts rl hm on wr nd br s n = wrtM rl 255 f s n := by
  unfold wrts wrtM
  refine orF_cong rl (fun k hk => ⟨?_, (hR k hk).1.symm⟩)
  show (decide (wr k = n) && hp hm on nd br s k) = (hpM 255 f s k && decide (f (6 + 4 * k + 1) = n))
  rw [hp_M hrl hR h39 s k hk, hw k hk, ← (hR k hk).2.1, Bool.and_comm]
theorem beg_M (hrl : rl ≤ 8) (hR : RU f nt rl on nd br w) (hw : ∀ k, k < rl → wr k = nI (w k)) (h39 : f 39 = hm) (h40 : f 40 = sp) (s : Int32) : begs rl hm sp on wr nd br s = begTM rl 255 f s 6 := by
  have hb : ∀ k, k < rl → (bt1 (orF (hp hm on nd br s) (fun k => nI k) rl) (nI k) = 1 ↔ hldM 255 f k s) := by
    intro k hk
    rw [bt1_1 (by omega), bt_orF (w := fun j => j) (by omega) rl (fun j hj => ⟨rfl, by omega⟩)]
    constructor
    · rintro ⟨j, hj, h1, h2⟩
      obtain rfl : j = k := h2
      rw [hp_M hrl hR h39 s j hj] at h1
      exact of_decide_eq_true h1
    · intro h
      exact ⟨k, hk, by rw [hp_M hrl hR h39 s k hk]; exact decide_eq_true h, rfl⟩
  have hk : ∀ n, n ≤ rl → ∀ b, begK (orF (hp hm on nd br s) (fun k => nI k) rl) nd wr (s &&& (sp ^^^ -1)) n b = begKM 255 f s n b := by
    intro n
    induction n with
    | zero => intro _ b; rfl
    | succ n ih =>
      intro hn b
      simp only [begK, begKM]
      rw [ih (by omega) b, hw n (by omega), ← (hR n (by omega)).2.1, ← (hR n (by omega)).2.2.1, h40, Int32.and_assoc]
      have := hb n (by omega)
      by_cases z : hldM 255 f n s
      · have z1 := this.mpr z
        by_cases q : f (6 + 4 * n + 2) &&& (begKM 255 f s n b ^^^ -1) = 0
        · rw [if_pos ⟨z1, q⟩, if_pos ⟨z, q⟩]
        · rw [if_neg (fun y => q y.2), if_neg (fun y => q y.2)]
      · have z1 : ¬ bt1 (orF (hp hm on nd br s) (fun k => nI k) rl) (nI n) = 1 := fun y => z (this.mp y)
        rw [if_neg (fun y => z1 y.1), if_neg (fun y => z y.1)]
  have ht : ∀ t, begT rl (orF (hp hm on nd br s) (fun k => nI k) rl) nd wr (s &&& (sp ^^^ -1)) t = begTM rl 255 f s t := by
    intro t
    induction t with
    | zero => rfl
    | succ t ih => simp only [begT, begTM]; rw [ih, hk rl (Nat.le_refl _)]
  exact ht 6
theorem ag_now (hnt : nt ≤ 6) (hrl : rl ≤ 8) (hR : RU f nt rl on nd br w) (h39 : f 39 = hm) (h40 : f 40 = sp) : RP (ag nt rl w (nI (2 ^ rl - 1)) sp hm on nd br) (agM rl 255 f) (2 ^ nt) := by
  refine ag_RP hnt hR h39 h40 (fun k hk => ?_)
  rw [bt1_1 (by omega), bt1_1 (by omega)]
  have h1 : ∀ rl, rl < 9 → ∀ k, k < rl → bt (nI (2 ^ rl - 1)) k = true := by decide +kernel
  have h2 : ∀ k, k < 8 → bt 255 k = true := by decide +kernel
  exact ⟨fun _ => h2 k (by omega), fun _ => h1 rl (by omega) k hk⟩
theorem ag_many (hnt : nt ≤ 6) (hR : RU f nt rl on nd br w) (h39 : f 39 = hm) (h40 : f 40 = sp) (c : Int32) : RP (ag nt rl w c sp hm on nd br) (agM rl c f) (2 ^ nt) := ag_RP hnt hR h39 h40 (fun _ _ => Iff.rfl)
end ST
/-! days, fits -/
theorem days_eq {x : Int32} {G : Int64} {p : Nat → Bool} {nt : Nat} (hnt : nt ≤ 6) (h : RP G p (2 ^ nt)) : (if x < 0 then -1 else if x ≤ 4 then (if x = 0 then bcl G else if x = 1 then lstF (inL G) 64 0 else if x = 2 then grF (inL G) 64 else if x = 3 then allB G nt else nonB G nt) else -1) = if ¬ x < 0 ∧ ¬ 4 < x then (if x = 0 then nI (dyK p (nI (2 ^ nt - 1)) (2 ^ nt)).1 else if (dyK p (nI (2 ^ nt - 1)) (2 ^ nt)).1 = 0 then -4 else if x = 1 then (dyK p (nI (2 ^ nt - 1)) (2 ^ nt)).2.1 else if x = 2 then (dyK p (nI (2 ^ nt - 1)) (2 ^ nt)).2.2.1 else if x = 3 then (dyK p (nI (2 ^ nt - 1)) (2 ^ nt)).2.2.2.1 else (dyK p (nI (2 ^ nt - 1)) (2 ^ nt)).2.2.2.2) else -1 := by
  have h64 := p64 hnt
  have hd := dy_lst (p := p) (S := nI (2 ^ nt - 1)) (2 ^ nt) (by omega)
  rw [inR, h.cnt h64, h.lst h64, h.gr h64, hd.1, hd.2.1, dy_gr]
  by_cases hz : cntM p (2 ^ nt) = 0
  · have z := z_allB (nt := nt) ((h.zero h64).mpr hz)
    have z1 := hd.2.2.mp hz
    have z2 : grF p (2 ^ nt) = -4 := by
      have a := (cnt_zero (2 ^ nt)).mp hz
      have : ∀ n, n ≤ 2 ^ nt → grF p n = -4 := by
        intro n
        induction n with
        | zero => intro _; rfl
        | succ n ih => intro hn; rw [grF, a n (by omega), if_neg (by decide)]; exact ih (by omega)
      exact this _ (Nat.le_refl _)
    rw [z.1, z.2, z1, z2, hz]
    simp
  · rw [h.allB h64 hnt hz, h.nonB h64 hnt hz, if_neg hz]
theorem fits_eq {x : Int32} {G : Int64} {p : Nat → Bool} {nt : Nat} (hnt : nt ≤ 6) (h : RP G p (2 ^ nt)) : (if x < 0 then -1 else if x ≤ 3 then (if x = 0 then bcl G else if x = 1 then lstF (inL G) 64 0 else if x = 2 then allB G nt else nonB G nt) else -1) = if ¬ x < 0 ∧ ¬ 3 < x then (if x = 0 then nI (dyK p (nI (2 ^ nt - 1)) (2 ^ nt)).1 else if (dyK p (nI (2 ^ nt - 1)) (2 ^ nt)).1 = 0 then -4 else if x = 1 then (dyK p (nI (2 ^ nt - 1)) (2 ^ nt)).2.1 else if x = 2 then (dyK p (nI (2 ^ nt - 1)) (2 ^ nt)).2.2.2.1 else (dyK p (nI (2 ^ nt - 1)) (2 ^ nt)).2.2.2.2) else -1 := by
  have h64 := p64 hnt
  have hd := dy_lst (p := p) (S := nI (2 ^ nt - 1)) (2 ^ nt) (by omega)
  rw [inR, h.cnt h64, h.lst h64, hd.1, hd.2.1]
  by_cases hz : cntM p (2 ^ nt) = 0
  · have z := z_allB (nt := nt) ((h.zero h64).mpr hz)
    have z1 := hd.2.2.mp hz
    rw [z.1, z.2, z1, hz]
    simp
  · rw [h.allB h64 hnt hz, h.nonB h64 hnt hz, if_neg hz]
/-! SEEN -/
theorem fit_RP {x : Int64} {p : Nat → Bool} {N : Nat} {s2 : Nat → Nat} {sh sq : Nat → Int32} (h : RP x p N) : ∀ n, (∀ j, j < n → s2 j < 6 ∧ sq (2 * j) = nI (s2 j) ∧ sq (2 * j + 1) = sh j ∧ (sh j = 0 ∨ sh j = 1)) → RP (fitK s2 sh x n) (fun s => ftM sq (nI s) (p s) n) N := by
  intro n
  induction n with
  | zero => intro _; exact h
  | succ n ih =>
    intro hs
    have ih' := ih (fun j hj => hs j (by omega))
    obtain ⟨h1, h2, h3, h4⟩ := hs n (by omega)
    have e : ∀ s, s < 64 → decide (bt1 (nI s) (sq (2 * n)) = sq (2 * n + 1)) = if sh n = 0 then !s.testBit (s2 n) else s.testBit (s2 n) := by
      intro s hs
      rw [h2, h3, bt1_bt _ (by omega), bt_nI (by omega)]
      rcases h4 with h4 | h4
      · rw [h4]; cases s.testBit (s2 n) <;> rfl
      · rw [h4]; cases s.testBit (s2 n) <;> rfl
    simp only [fitK, ftM]
    intro s hs
    rw [bl_and, ih' s hs]
    simp only []
    rw [e s hs]
    by_cases q : sh n = 0
    · rw [if_pos q, if_pos q, bl_not hs, bl_hv _ h1 s hs, Bool.and_assoc]
    · rw [if_neg q, if_neg q, bl_hv _ h1 s hs, Bool.and_assoc]
theorem mx_nat {a b : Nat} (ha : a < 2 ^ 30) (hb : b < 2 ^ 30) : mxI (nI a) (nI b) = nI (if b < a then a else b) := by
  unfold mxI
  by_cases h : b < a
  · rw [if_pos h, if_neg (fun z => by have := (nI_ltI (by omega) (by omega)).mp z; omega)]
  · rw [if_neg h]
    by_cases e : a < b
    · rw [if_pos (nI_lt e (by omega))]
    · obtain rfl : a = b := by omega
      rw [if_neg (fun z => by have := (nI_ltI (by omega) (by omega)).mp z; omega)]
theorem ask_rel {x : Int64} {p : Nat → Bool} {nt : Nat} (hnt : nt ≤ 6) (h : RP x p (2 ^ nt)) : ∀ n, n ≤ nt → askK x n = ((akM p (2 ^ nt) n).2, nI (akM p (2 ^ nt) n).1) := by
  have h64 := p64 hnt
  intro n
  induction n with
  | zero => intro _; show (-4, bcl x) = _; rw [h.cnt h64]; rfl
  | succ n ih =>
    intro hn
    have ih' := ih (by omega)
    have c0 := cntM_le p (2 ^ nt)
    have cy := yesM_le p n (2 ^ nt)
    have cn := cnt_not (p := p) (q := fun s => decide (bt1 (nI s) (nI n) = 1)) (2 ^ nt)
    have e1 : bcl (x &&& HVj n) = nI (yesM p n (2 ^ nt)) := (h.hv (j := n) (by omega)).cnt h64
    have e2 : bcl (x &&& (HVj n ^^^ -1)) = nI (cntM p (2 ^ nt) - yesM p n (2 ^ nt)) := by
      rw [(h.hn (j := n) (by omega)).cnt h64]
      congr 1
      unfold yesM
      omega
    have e3 : mxI (bcl (x &&& HVj n)) (bcl (x &&& (HVj n ^^^ -1))) = nI (wstM p n (2 ^ nt)) := by
      rw [e1, e2, mx_nat (by omega) (by omega)]; rfl
    have hw : wstM p n (2 ^ nt) ≤ 64 := by unfold wstM; split <;> omega
    have hk := akM_le p (2 ^ nt) n
    simp only [askK, akM]
    rw [e3, ih']
    by_cases q : wstM p n (2 ^ nt) < (akM p (2 ^ nt) n).1
    · rw [if_pos q, if_pos (fun z => by have := (nI_leI (by omega) (by omega)).mp z; omega)]
    · rw [if_neg q, if_neg (fun z => z (nI_le (by omega) (by omega)))]
theorem ask_eq {x : Int64} {p : Nat → Bool} {nt : Nat} {wh : Int32} (hnt : nt ≤ 6) (h : RP x p (2 ^ nt)) : (if wh = 0 ∨ wh = 1 then (if wh = 0 then (askK x nt).1 else if (askK x nt).1 = -4 then (askK x nt).1 else (askK x nt).2) else -1) = if ¬ wh < 0 ∧ ¬ 1 < wh then (if (akM p (2 ^ nt) nt).2 = -4 then (akM p (2 ^ nt) nt).2 else if wh = 0 then (akM p (2 ^ nt) nt).2 else nI (akM p (2 ^ nt) nt).1) else -1 := by
  rw [ask_rel hnt h nt (Nat.le_refl _)]
  by_cases q : wh = 0 ∨ wh = 1
  · rw [if_pos q, if_pos (in01.mpr q)]
    by_cases e : wh = 0
    · rw [if_pos e, if_pos e]; split <;> rfl
    · rw [if_neg e, if_neg e]
  · rw [if_neg q, if_neg (fun z => q (in01.mp z))]
/-! pure, could -/
theorem pur_bl {f : Nat → Int32} {s0 : Int64} {s : Nat} (hs : s < 64) : ∀ n, n ≤ 64 → bl (purK f s0 n) s = (bl s0 s && (decide (n ≤ s) || decide (f s = nI s))) := by
  intro n
  induction n with
  | zero => intro _; simp [purK]
  | succ n ih =>
    intro hn
    have ih' := ih (by omega)
    have hm : ∀ n, n < 64 → ∀ s, s < 64 → bl ((1 : Int64) <<< (Int32.toInt64 (nI n) &&& 63)) s = decide (s = n) := by decide +kernel
    simp only [purK]
    by_cases q : isIn (nI n) (purK f s0 n) ∧ ¬ f n = nI n
    · rw [if_pos q, bl_and, bl_not hs, hm n (by omega) s hs, ih']
      by_cases e : s = n
      · subst e
        rw [decide_eq_true rfl, decide_eq_false (show ¬ s + 1 ≤ s by omega), decide_eq_false q.2]
        simp
      · rw [decide_eq_false e]
        by_cases z : n ≤ s
        · rw [decide_eq_true z, decide_eq_true (show n + 1 ≤ s by omega)]; simp
        · rw [decide_eq_false z, decide_eq_false (show ¬ n + 1 ≤ s by omega)]; simp
    · rw [if_neg q, ih']
      by_cases e : s = n
      · subst e
        rw [decide_eq_true (Nat.le_refl s), decide_eq_false (show ¬ s + 1 ≤ s by omega)]
        by_cases z : f s = nI s
        · rw [decide_eq_true z]; simp
        · rw [decide_eq_false z]
          have : ¬ bl (purK f s0 s) s = true := fun y => q ⟨(isIn_bl hs).mpr y, z⟩
          rw [ih', decide_eq_true (Nat.le_refl s), Bool.true_or, Bool.and_true] at this
          rw [Bool.eq_false_iff.mpr this]; rfl
      · by_cases z : n ≤ s
        · rw [decide_eq_true z, decide_eq_true (show n + 1 ≤ s by omega)]
        · rw [decide_eq_false z, decide_eq_false (show ¬ n + 1 ≤ s by omega)]
theorem pur_RP {f : Nat → Int32} {x : Int64} {p q : Nat → Bool} {N : Nat} (h : RP x p N) (hN : N ≤ 64) (hq : ∀ s, s < N → q s = (p s && decide (f s = nI s))) : RP (purK f x N) q N := by
  intro s hs
  rw [pur_bl hs N hN, h s hs]
  by_cases e : s < N
  · rw [decide_eq_true e, decide_eq_false (show ¬ N ≤ s by omega), hq s e]; simp
  · rw [decide_eq_false e]; simp
theorem pure_eq {x : Int32} {G : Int64} {p : Nat → Bool} {nt : Nat} (hnt : nt ≤ 6) (h : RP G p (2 ^ nt)) : (if x = 0 ∨ x = 1 then (if x = 0 then bcl G else lstF (inL G) 64 0) else -1) = if ¬ x < 0 ∧ ¬ 1 < x then (if x = 0 then nI (dyK p 0 (2 ^ nt)).1 else (dyK p 0 (2 ^ nt)).2.1) else -1 := by
  have h64 := p64 hnt
  have hd := dy_lst (p := p) (S := 0) (2 ^ nt) (by omega)
  rw [h.cnt h64, h.lst h64, hd.1, hd.2.1]
  by_cases q : x = 0 ∨ x = 1
  · rw [if_pos q, if_pos (in01.mpr q)]
  · rw [if_neg q, if_neg (fun z => q (in01.mp z))]
theorem cou_eq {G : Int64} {p : Nat → Bool} {N : Nat} {g g2 : Nat → Int32} (hN : N ≤ 64) (h : RP G p N) (hg : ∀ s, s < N → g s = g2 s) : ∀ n, n ≤ N → couK G g n = couM p g2 n := by
  intro n
  induction n with
  | zero => intro _; rfl
  | succ n ih =>
    intro hn
    simp only [couK, couM]
    rw [ih (by omega), hg n (by omega)]
    by_cases q : p n = true
    · rw [if_pos q, if_pos ((h.mem (by omega) hN).mpr q)]
    · rw [if_neg q, if_neg (fun z => q ((h.mem (by omega) hN).mp z)), or0]
/-! fewest, police -/
theorem bts_all : ∀ c, c < 256 → btsK (nI c) 8 = nI (pcn c) := by decide +kernel
def fwR (K : Int32) (F : Int32 × Int32) : Prop := (K = -4 ∧ F = (100, -4)) ∨ ∃ a, a < 256 ∧ K = nI a ∧ F = (nI (pcn a), nI a)
theorem fw_test {K : Int32} {F : Int32 × Int32} (h : fwR K F) {n : Nat} (hn : n < 256) : fewP (nI n) K ↔ ¬ F.1 ≤ btsK (nI n) 8 := by
  have h8 := pcn_8 n
  rw [bts_all n hn]
  rcases h with ⟨h1, h2⟩ | ⟨a, ha, h1, h2⟩
  · rw [h1, h2]
    refine ⟨fun _ z => ?_, fun _ => Or.inl rfl⟩
    have := (nI_leI (a := 100) (by omega) (by omega)).mp z
    omega
  · rw [h1, h2]
    unfold fewP
    rw [pcn_all a ha, pcn_all n hn]
    exact ⟨fun z => z.elim (fun y => absurd y (nI_m4 (by omega))) id, Or.inr⟩
theorem few_rel {W : Int64} {hm : Int32} {A : Nat → Int64} {a c : Nat → Bool} {N : Nat} (hN : N ≤ 256) (ha : ∀ n, n < N → (nI n &&& hm = 0 ↔ a n = true)) (hc : ∀ n, n < N → (¬ A n &&& W = 0 ↔ c n = true)) : ∀ n, n ≤ N → fwR (fewK W hm A n) (fwM a c n) := by
  intro n
  induction n with
  | zero => intro _; exact Or.inl ⟨rfl, rfl⟩
  | succ n ih =>
    intro hn
    have ih' := ih (by omega)
    have ht := fw_test ih' (n := n) (by omega)
    simp only [fewK, fwM]
    by_cases q : nI n &&& hm = 0 ∧ fewP (nI n) (fewK W hm A n) ∧ ¬ A n &&& W = 0
    · rw [if_pos q, if_pos ⟨(ha n (by omega)).mp q.1, ht.mp q.2.1, (hc n (by omega)).mp q.2.2⟩, bts_all n (by omega)]
      exact Or.inr ⟨n, by omega, rfl, rfl⟩
    · rw [if_neg q, if_neg (fun z => q ⟨(ha n (by omega)).mpr z.1, ht.mpr z.2.1, (hc n (by omega)).mpr z.2.2⟩)]
      exact ih'
theorem pol_rel {W : Int64} {nv : Int32} {A : Nat → Int64} {a c : Nat → Bool} {N : Nat} (hN : N ≤ 256) (ha : ∀ n, n < N → (nI n &&& nv = 0 ↔ a n = true)) (hc : ∀ n, n < N → (A n &&& W = 0 ↔ c n = true)) : ∀ n, n ≤ N → fwR (polK W nv A n) (fwM a c n) := by
  intro n
  induction n with
  | zero => intro _; exact Or.inl ⟨rfl, rfl⟩
  | succ n ih =>
    intro hn
    have ih' := ih (by omega)
    have ht := fw_test ih' (n := n) (by omega)
    simp only [polK, fwM]
    by_cases q : nI n &&& nv = 0 ∧ fewP (nI n) (polK W nv A n) ∧ A n &&& W = 0
    · rw [if_pos q, if_pos ⟨(ha n (by omega)).mp q.1, ht.mp q.2.1, (hc n (by omega)).mp q.2.2⟩, bts_all n (by omega)]
      exact Or.inr ⟨n, by omega, rfl, rfl⟩
    · rw [if_neg q, if_neg (fun z => q ⟨(ha n (by omega)).mpr z.1, ht.mpr z.2.1, (hc n (by omega)).mpr z.2.2⟩)]
      exact ih'
theorem fw_ans {K : Int32} {F : Int32 × Int32} (h : fwR K F) {wh : Int32} : (if wh = 0 ∨ wh = 1 then (if wh = 0 then szF K else K) else -1) = if ¬ wh < 0 ∧ ¬ 1 < wh then (if F.2 = -4 then F.2 else if wh = 1 then F.2 else F.1) else -1 := by
  by_cases q : wh = 0 ∨ wh = 1
  · rw [if_pos q, if_pos (in01.mpr q)]
    rcases h with ⟨h1, h2⟩ | ⟨a, ha, h1, h2⟩
    · rw [h1, h2]
      unfold szF
      rw [if_pos rfl, if_pos rfl]
      split <;> rfl
    · rw [h1, h2]
      unfold szF
      rw [if_neg (nI_m4 (by omega)), if_neg (show ¬ nI a = -4 from nI_m4 (by omega)), pcn_all a ha]
      rcases q with q | q
      · rw [if_pos q, if_neg (by rw [q]; decide)]
      · rw [if_neg (by rw [q]; decide), if_pos q]
  · rw [if_neg q, if_neg (fun z => q (in01.mp z))]
/-- some set of those has, or has not, a NOTE -/
theorem can_iff {x : Int64} {rl nt j : Nat} {th : Int32} {f : Nat → Int32} {P : Prop} [Decidable P] (hnt : nt ≤ 6) (hj : j < 6) (h : RP x (agM rl th f) (2 ^ nt)) : ¬ x &&& (if ¬ P then HVj j ^^^ -1 else HVj j) = 0 ↔ anyB (cbQ rl th f (nI j) P) (2 ^ nt) = true := by
  have h64 := p64 hnt
  rw [any_iff]
  have e : ∀ s, s < 2 ^ nt → (cbQ rl th f (nI j) P s = true ↔ ((s.testBit j = true ↔ P) ∧ agM rl th f s = true)) := by
    intro s hs
    unfold cbQ agM
    rw [decide_eq_true_eq, decide_eq_true_eq, bt1_1 (by omega), bt_nI (by omega)]
  by_cases p : P
  · rw [if_neg (fun z => z p), hv_dis hj, h.all h64]
    constructor
    · intro z
      apply Classical.byContradiction
      intro y
      apply z
      intro s hs hp
      apply Bool.eq_false_iff.mpr
      intro t
      exact y ⟨s, hs, (e s hs).mpr ⟨⟨fun _ => p, fun _ => t⟩, hp⟩⟩
    · rintro ⟨s, hs, hc⟩ z
      obtain ⟨a, b⟩ := (e s hs).mp hc
      have := z s hs b
      rw [a.mpr p] at this
      exact absurd this (by decide)
  · rw [if_pos p, hv_sub hj, h.all h64]
    constructor
    · intro z
      apply Classical.byContradiction
      intro y
      apply z
      intro s hs hp
      apply Classical.byContradiction
      intro t
      exact y ⟨s, hs, (e s hs).mpr ⟨⟨fun q => absurd q t, fun q => absurd q p⟩, hp⟩⟩
    · rintro ⟨s, hs, hc⟩ z
      obtain ⟨a, b⟩ := (e s hs).mp hc
      exact p (a.mp (z s hs b))
theorem can_true {x : Int64} {rl nt j : Nat} {th : Int32} {f : Nat → Int32} (hnt : nt ≤ 6) (hj : j < 6) (h : RP x (agM rl th f) (2 ^ nt)) : (x &&& HVj j = 0) ↔ ¬ anyB (cbQ rl th f (nI j) True) (2 ^ nt) = true := by
  have := can_iff (P := True) hnt hj h
  rw [if_neg (fun z => z trivial)] at this
  rw [← this]
  exact ⟨fun z y => y z, fun z => Classical.byContradiction z⟩
