/-! ===== the text: what is written is a NOTE that there is ===== -/
def CV (s : PS) : Prop := ∀ k, k < s.rl → bt s.tN (s.wr k).toNatClampNeg = true
theorem sb_mono {x v : Int32} {i : Nat} (h : bt x i = true) : bt (sb x v) i = true := by
  unfold sb
  rw [b_or, h, Bool.true_or]
theorem sb_self {x v : Int32} (h : Wd 6 v) : bt (sb x v) v.toNatClampNeg = true := by
  obtain ⟨j, hj, rfl⟩ := h
  unfold sb
  rw [nI_clamp (by omega), b_or, b_pow j (by omega) j (by omega), decide_eq_true rfl, Bool.or_true]
theorem rlP_mono {b : Nat → Int32} {n i : Nat} : ∀ k p nd br bn nn, bt nn i = true → bt (rlP b n k p nd br bn nn).2.2.2 i = true := by
  intro k
  induction k with
  | zero => intro p nd br bn nn h; exact h
  | succ k ih =>
    intro p nd br bn nn h
    rw [rlP]
    split
    · split
      · exact h
      · split
        · exact ih _ _ _ _ _ h
        · split
          · split
            · exact ih _ _ _ _ _ (sb_mono h)
            · exact ih _ _ _ _ _ (sb_mono h)
          · exact h
    · exact h
theorem ln_CV {tk : Int32} {b : Nat → Int32} {n sa nx : Nat} {s : PS} (hp : nx ≤ n) (h : (lnC b n tk sa nx s).1 = 0) (hg : GS s) (hc : CV s) : CV (lnP b n tk sa nx s) := by
  obtain ⟨a, c, d⟩ := x_of h
  rw [lnC_ml h] at h
  rw [lnC_X.2]
  generalize nmI tk b sa nx = x at a c d h
  rcases a with rfl | rfl | rfl | rfl | rfl | rfl | rfl
  · exact hc
  · have hr : (rcC b n nx s.tN).1 = 0 := h
    obtain ⟨-, -, a3⟩ := rc_pos hp hr
    have hw := nu_W a3
    intro k hk
    have hk9 : k < s.rl + 1 := hk
    show bt (rlR b n nx s.tN).2.2.2 (upd s.wr s.rl (tkV b n (tkN b n nx) 0) k).toNatClampNeg = true
    simp only [upd]
    by_cases e : k = s.rl
    · rw [if_pos e]
      exact rlP_mono _ _ _ _ _ _ (sb_self hw)
    · rw [if_neg e]
      exact rlP_mono _ _ _ _ _ _ (sb_mono (hc k (by omega)))
  · exact fun k hk => sb_mono (hc k hk)
  · exact fun k hk => sb_mono (hc k hk)
  · exact hc
  · exact fun k hk => sb_mono (hc k hk)
  · exact fun k hk => sb_mono (hc k hk)
theorem all_CV {b : Nat → Int32} {n : Nat} : ∀ k p s c, p ≤ n → GS s → CV s → CV (lnAll b n k p s c).2.1 := by
  intro k
  induction k with
  | zero => intro p s c _ _ h; exact h
  | succ k ih =>
    intro p s c hp hg h
    by_cases c1 : tkO b n p = true
    · by_cases c2 : tkK b n p = 0
      · rw [la_end c1 c2]; exact h
      · by_cases c3 : (lnC b n (tkK b n p) (tkS b n p) (tkN b n p) s).1 = 0
        · rw [la_go c1 c2 c3]
          have h2 := (tkN_b (b := b) hp).2
          have h3 := ln_pos h2 c3 hg
          exact ih _ _ _ h3.1.2 h3.2 (ln_CV h2 c3 hg h)
        · rw [la_bad c1 c2 c3]; exact h
    · rw [la_tok c1]; exact h
theorem flt_end {r : (Int32 × Nat) × PS × Nat} (h : fltL r = 0) : endF r.2.1 = 0 := by
  unfold fltL at h
  by_cases e : r.1.1 = 0
  · rw [if_pos e] at h; exact h
  · rw [if_neg e] at h; exact absurd h e
theorem end_w {s : PS} (hg : GS s) (hc : CV s) (he : endF s = 0) : ∀ k, k < s.rl → ∃ w, s.wr k = nI w ∧ w < s.kn := by
  intro k hk
  obtain ⟨w, hw, e⟩ := (hg.2.2.2.2.2.2.2.2.1 k hk).2.1
  refine ⟨w, e, ?_⟩
  have h1 := hc k hk
  rw [e, nI_clamp (by omega)] at h1
  have hz : s.tN >>> (nI s.kn &&& 31) = 0 := by
    unfold endF at he
    by_cases q : s.tN >>> (nI s.kn &&& 31) = 0
    · exact q
    · rw [if_neg q] at he; exact absurd he (by decide)
  have hk6 := hg.2.2.2.2.2.2.2.1
  apply Decidable.byContradiction
  intro q
  have h2 := b_sshr s.kn (by omega) s.tN (i := w - s.kn) (by omega)
  rw [hz, b_0, if_pos (by omega), show s.kn + (w - s.kn) = w by omega, h1] at h2
  exact absurd h2 (by decide)
/-! ===== what the class's cells and the model's cells have to do with each other ===== -/
def RS (g : Nat → Int32) (nt : Nat) (rlC hm sp td dt : Int32) (on wr nd br wo : Nat → Int32) : Prop := ∃ (rl : Nat) (w : Nat → Nat), rlC = nI rl ∧ rl ≤ 8 ∧ g 38 = nI rl ∧ g 39 = hm ∧ g 40 = sp ∧ g 41 = td ∧ g 42 = dt ∧ Wd 64 td ∧ (∀ k, k < 6 → g k = wo k ∧ ¬ wo k < -9 ∧ wo k ≤ 9) ∧ RU g nt rl on nd br w ∧ (∀ k, k < rl → wr k = nI (w k))
def RIm (f : Nat → Int32) (j nt pp : Nat) (kp : Nat → Int32) (ntI ppI rlI hm sp td dt : Int32) (on wr nd br wo : Nat → Int32) : Prop := (∃ a b c : Nat, ntI = nI a ∧ ppI = nI b ∧ rlI = nI c) ∧ (¬ kp j = 0 → ntI = nI nt ∧ ppI = nI pp ∧ RS (fun i => f (43 * (j + 1) + i)) nt rlI hm sp td dt on wr nd br wo)
def RZ (nt : Nat) (seC seM : Int32) (sn sh sq : Nat → Int32) : Prop := ∃ (se : Nat) (s2 : Nat → Nat), seC = nI se ∧ seM = nI se ∧ se ≤ 8 ∧ ∀ j, j < se → sn j = nI (s2 j) ∧ s2 j < nt ∧ sq (2 * j) = nI (s2 j) ∧ sq (2 * j + 1) = sh j ∧ (sh j = 0 ∨ sh j = 1)
def RR (j : Nat) (la z : Int32) (rf lg lh cq : Nat → Int32) : Prop := ∃ sz : Nat, z = nI sz ∧ sz ≤ 40 ∧ lh j = nI sz ∧ la = laC (lg j) ∧ (lg j = -4 ∨ (¬ lg j < 0 ∧ ¬ 2 < lg j)) ∧ ∀ p, p < 40 → rf p = cq (40 * j + p)
def RN (nt pp : Nat) (ntC ntM ppC ppM : Int32) : Prop := ntC = nI nt ∧ ntM = nI nt ∧ ppC = nI pp ∧ ppM = nI pp ∧ 1 ≤ nt ∧ nt ≤ 6 ∧ 1 ≤ pp ∧ pp ≤ 4
def RT (tlC tlM tx ts kn3 kp3 rl3 spt hre : Int32) (by_ byM : Nat → Int32) : Prop := ∃ tl nx sa a b c sq he : Nat, tlC = nI tl ∧ tlM = nI tl ∧ tl ≤ 160 ∧ tx = nI nx ∧ ts = nI sa ∧ kn3 = nI a ∧ kp3 = nI b ∧ rl3 = nI c ∧ spt = nI sq ∧ hre = nI he ∧ byM = by_ ∧ ∀ j, ¬ by_ j = -4
def RC (tf fa tnC tnM : Int32) (kp kpM cf lf : Nat → Int32) : Prop := fa = tf ∧ tnM = tnC ∧ kpM = kp ∧ (∀ k, k < 9 → cf k = nI (cutT.getD k 0)) ∧ ∀ k, k < 35 → lf k = letT.getD k 0
theorem RS.cg {g g' : Nat → Int32} {nt : Nat} {rlC hm sp td dt : Int32} {on wr nd br wo on' wr' nd' br' wo' : Nat → Int32} (h : RS g nt rlC hm sp td dt on wr nd br wo) (hg : ∀ j, j < 43 → g' j = g j) (e : ∀ k, k < 8 → on' k = on k ∧ wr' k = wr k ∧ nd' k = nd k ∧ br' k = br k) (ew : ∀ k, k < 6 → wo' k = wo k) : RS g' nt rlC hm sp td dt on' wr' nd' br' wo' := by
  obtain ⟨rl, w, h1, h2, h3, h4, h5, h6, h7, h8, h9, h10, h11⟩ := h
  refine ⟨rl, w, h1, h2, by rw [hg 38 (by omega)]; exact h3, by rw [hg 39 (by omega)]; exact h4, by rw [hg 40 (by omega)]; exact h5, by rw [hg 41 (by omega)]; exact h6, by rw [hg 42 (by omega)]; exact h7, h8, fun k hk => ?_, fun k hk => ?_, fun k hk => ?_⟩
  · rw [hg k (by omega), ew k hk]; exact h9 k hk
  · obtain ⟨a1, a2, a3, a4, a5, a6, a7⟩ := h10 k hk
    obtain ⟨e1, e2, e3, e4⟩ := e k (by omega)
    rw [hg _ (by omega), hg _ (by omega), hg _ (by omega), hg _ (by omega), e1, e3, e4]
    exact ⟨a1, a2, a3, a4, a5, a6, a7⟩
  · rw [(e k (by omega)).2.1]; exact h11 k hk
theorem RS.sc {f f' : Nat → Int32} {nt : Nat} {rlC hm sp td dt hm' sp' td' dt' : Int32} {on wr nd br wo : Nat → Int32} (h : RS f nt rlC hm sp td dt on wr nd br wo) (hf : ∀ j, j < 39 → f' j = f j) (e39 : f' 39 = hm') (e40 : f' 40 = sp') (e41 : f' 41 = td') (e42 : f' 42 = dt') (hW : Wd 64 td') : RS f' nt rlC hm' sp' td' dt' on wr nd br wo := by
  obtain ⟨rl, w, h1, h2, h3, h4, h5, h6, h7, h8, h9, h10, h11⟩ := h
  refine ⟨rl, w, h1, h2, by rw [hf 38 (by omega)]; exact h3, e39, e40, e41, e42, hW, fun k hk => ?_, fun k hk => ?_, h11⟩
  · rw [hf k (by omega)]; exact h9 k hk
  · rw [hf _ (by omega), hf _ (by omega), hf _ (by omega), hf _ (by omega)]
    exact h10 k hk
theorem RS.cut {f : Nat → Int32} {nt rl m : Nat} {hm sp td dt : Int32} {on wr nd br wo : Nat → Int32} (h : RS f nt (nI rl) hm sp td dt on wr nd br wo) (hrl : rl ≤ 8) (hm' : m ≤ rl) : RS (upd f 38 (nI m)) nt (nI m) hm sp td dt on wr nd br wo := by
  obtain ⟨rl', w, h1, h2, h3, h4, h5, h6, h7, h8, h9, h10, h11⟩ := h
  obtain rfl : rl = rl' := (nI_eq (by omega) (by omega)).mp h1
  refine ⟨m, w, rfl, by omega, pk_us, by rw [pk_un (by decide)]; exact h4, by rw [pk_un (by decide)]; exact h5, by rw [pk_un (by decide)]; exact h6, by rw [pk_un (by decide)]; exact h7, h8, fun k hk => ?_, fun k hk => ?_, fun k hk => h11 k (by omega)⟩
  · rw [pk_un (by omega)]; exact h9 k hk
  · rw [pk_un (by omega), pk_un (by omega), pk_un (by omega), pk_un (by omega)]; exact h10 k (by omega)
theorem RS.need {f : Nat → Int32} {nt j : Nat} {rlC hm sp td dt v : Int32} {on wr nd br wo : Nat → Int32} (h : RS f nt rlC hm sp td dt on wr nd br wo) (hj : j < 8) (hv : Wd 64 v) : RS (upd f (6 + 4 * j + 2) v) nt rlC hm sp td dt on wr (upd nd j v) br wo := by
  obtain ⟨rl, w, h1, h2, h3, h4, h5, h6, h7, h8, h9, h10, h11⟩ := h
  refine ⟨rl, w, h1, h2, by rw [pk_un (by omega)]; exact h3, by rw [pk_un (by omega)]; exact h4, by rw [pk_un (by omega)]; exact h5, by rw [pk_un (by omega)]; exact h6, by rw [pk_un (by omega)]; exact h7, h8, fun k hk => ?_, fun k hk => ?_, h11⟩
  · rw [pk_un (by omega)]; exact h9 k hk
  · obtain ⟨a1, a2, a3, a4, a5, a6, a7⟩ := h10 k hk
    by_cases e : k = j
    · subst e
      rw [pk_un (by omega), pk_un (by omega), pk_us, pk_us, pk_un (by omega)]
      exact ⟨a1, a2, rfl, a4, a5, hv, a7⟩
    · rw [pk_un (by omega), pk_un (by omega), pk_un (by omega), pk_un e, pk_un (by omega)]
      exact ⟨a1, a2, a3, a4, a5, a6, a7⟩
theorem RS.bar {f : Nat → Int32} {nt j : Nat} {rlC hm sp td dt v : Int32} {on wr nd br wo : Nat → Int32} (h : RS f nt rlC hm sp td dt on wr nd br wo) (hj : j < 8) (hv : Wd 64 v) : RS (upd f (6 + 4 * j + 3) v) nt rlC hm sp td dt on wr nd (upd br j v) wo := by
  obtain ⟨rl, w, h1, h2, h3, h4, h5, h6, h7, h8, h9, h10, h11⟩ := h
  refine ⟨rl, w, h1, h2, by rw [pk_un (by omega)]; exact h3, by rw [pk_un (by omega)]; exact h4, by rw [pk_un (by omega)]; exact h5, by rw [pk_un (by omega)]; exact h6, by rw [pk_un (by omega)]; exact h7, h8, fun k hk => ?_, fun k hk => ?_, h11⟩
  · rw [pk_un (by omega)]; exact h9 k hk
  · obtain ⟨a1, a2, a3, a4, a5, a6, a7⟩ := h10 k hk
    by_cases e : k = j
    · subst e
      rw [pk_un (by omega), pk_un (by omega), pk_un (by omega), pk_us, pk_us]
      exact ⟨a1, a2, a3, rfl, a5, a6, hv⟩
    · rw [pk_un (by omega), pk_un (by omega), pk_un (by omega), pk_un (by omega), pk_un e]
      exact ⟨a1, a2, a3, a4, a5, a6, a7⟩
theorem RS.pay {f : Nat → Int32} {nt j : Nat} {rlC hm sp td dt v : Int32} {on wr nd br wo : Nat → Int32} (h : RS f nt rlC hm sp td dt on wr nd br wo) (hj : j < 6) (hv : ¬ v < -9 ∧ v ≤ 9) : RS (upd f j v) nt rlC hm sp td dt on wr nd br (upd wo j v) := by
  obtain ⟨rl, w, h1, h2, h3, h4, h5, h6, h7, h8, h9, h10, h11⟩ := h
  refine ⟨rl, w, h1, h2, by rw [pk_un (by omega)]; exact h3, by rw [pk_un (by omega)]; exact h4, by rw [pk_un (by omega)]; exact h5, by rw [pk_un (by omega)]; exact h6, by rw [pk_un (by omega)]; exact h7, h8, fun k hk => ?_, fun k hk => ?_, h11⟩
  · by_cases e : k = j
    · subst e; rw [pk_us, pk_us]; exact ⟨rfl, hv⟩
    · rw [pk_un e, pk_un e]; exact h9 k hk
  · rw [pk_un (by omega), pk_un (by omega), pk_un (by omega), pk_un (by omega)]; exact h10 k hk
theorem RIm.cg {f f' : Nat → Int32} {j nt pp : Nat} {kp kp' : Nat → Int32} {ntI ppI rlI hm sp td dt : Int32} {on wr nd br wo : Nat → Int32} (h : RIm f j nt pp kp ntI ppI rlI hm sp td dt on wr nd br wo) (hj : j < 2) (hf : ∀ i, 43 ≤ i → i < 129 → f' i = f i) (hk : kp' j = kp j) : RIm f' j nt pp kp' ntI ppI rlI hm sp td dt on wr nd br wo := by
  refine ⟨h.1, fun q => ?_⟩
  obtain ⟨a, b, c⟩ := h.2 (by rw [← hk]; exact q)
  exact ⟨a, b, c.cg (fun i hi => hf _ (by omega) (by omega)) (fun k hk => ⟨rfl, rfl, rfl, rfl⟩) (fun k hk => rfl)⟩
theorem RIm.no {f : Nat → Int32} {j nt pp : Nat} {kp : Nat → Int32} {ntI ppI rlI hm sp td dt : Int32} {on wr nd br wo : Nat → Int32} (h : ∃ a b c : Nat, ntI = nI a ∧ ppI = nI b ∧ rlI = nI c) (hk : kp j = 0) : RIm f j nt pp kp ntI ppI rlI hm sp td dt on wr nd br wo := ⟨h, fun q => absurd hk q⟩
theorem RR.cg {j : Nat} {la z : Int32} {rf lg lh cq lg' lh' cq' : Nat → Int32} (h : RR j la z rf lg lh cq) (h1 : lg' j = lg j) (h2 : lh' j = lh j) (h3 : ∀ p, p < 40 → cq' (40 * j + p) = cq (40 * j + p)) : RR j la z rf lg' lh' cq' := by
  obtain ⟨sz, a1, a2, a3, a4, a5, a6⟩ := h
  exact ⟨sz, a1, a2, by rw [h2]; exact a3, by rw [h1]; exact a4, by rw [h1]; exact a5, fun p hp => by rw [h3 p hp]; exact a6 p hp⟩
/-! ===== a call: what comes behind it ===== -/
def Cl (l : Launch) (E : VE) (y : MethodName) (cc : ByteArray) (n : Nat) (ret : Option FieldType) (ci b : Nat) (As : List Value) (ws : va_W) (K : Option Value → va_W → Prop) : Prop :=
  ∃ (fr lo : Nat) (isC : List Nat) (wc : va_W) (F2 : vF) (q0 : Nat) (fs : List Value), Ct l E y cc n ret fr lo 0 0 (.ref b :: As) wc F2 ∧ (fr + 1 ≤ 12 ∧ 8 + (n + 11) + lo ≤ 434) ∧ ws[q0]? = some (b, .inr (ci, fs)) ∧ va_nd isC = true ∧ isC.map (fun i => ws[i]?) = wc.map some ∧ ∀ v w1, F2 v w1 → w1.length = isC.length ∧ K v (setP ws isC w1)
section CL
variable {l : Launch} {E : VE} {y : MethodName} {cc : ByteArray} {n : Nat} {ret : Option FieldType} {ci b : Nat} {As : List Value} {ws : va_W} {K : Option Value → va_W → Prop} {fr lo : Nat}
theorem Cl.of {wc : va_W} {F2 : vF} {fs : List Value} (isC : List Nat) (q0 : Nat) (hM : Ct l E y cc n ret fr lo 0 0 (.ref b :: As) wc F2) (hR : fr + 1 ≤ 12 ∧ 8 + (n + 11) + lo ≤ 434) (hq : ws[q0]? = some (b, .inr (ci, fs))) (hnd : va_nd isC = true) (hC : isC.map (fun i => ws[i]?) = wc.map some) (hk : ∀ v w1, F2 v w1 → w1.length = isC.length ∧ K v (setP ws isC w1)) : Cl l E y cc n ret ci b As ws K := ⟨fr, lo, isC, wc, F2, q0, fs, hM, hR, hq, hnd, hC, hk⟩
theorem Cl.rt {wc w ws' : va_W} {v : Option Value} {fs : List Value} (isC : List Nat) (q0 : Nat) (hM : Ct l E y cc n ret fr lo 0 0 (.ref b :: As) wc (Rt v w)) (hR : fr + 1 ≤ 12 ∧ 8 + (n + 11) + lo ≤ 434) (hq : ws[q0]? = some (b, .inr (ci, fs))) (hnd : va_nd isC = true) (hC : isC.map (fun i => ws[i]?) = wc.map some) (hl : w.length = isC.length) (hw : setP ws isC w = ws') (hk : K v ws') : Cl l E y cc n ret ci b As ws K := Cl.of isC q0 hM hR hq hnd hC (fun a c q => by rw [q.1, q.2]; exact ⟨hl, hw ▸ hk⟩)
theorem Cl.r1 {α : Type} {wc : va_W} {w ws' : α → va_W} {v : Option Value} {fs : List Value} (isC : List Nat) (q0 : Nat) (hM : Ct l E y cc n ret fr lo 0 0 (.ref b :: As) wc (RtE1 v w)) (hR : fr + 1 ≤ 12 ∧ 8 + (n + 11) + lo ≤ 434) (hq : ws[q0]? = some (b, .inr (ci, fs))) (hnd : va_nd isC = true) (hC : isC.map (fun i => ws[i]?) = wc.map some) (hl : ∀ x, (w x).length = isC.length) (hw : ∀ x, setP ws isC (w x) = ws' x) (hk : ∀ x, K v (ws' x)) : Cl l E y cc n ret ci b As ws K := Cl.of isC q0 hM hR hq hnd hC (fun a c q => by
  obtain ⟨q1, x, q2⟩ := q
  rw [q1, q2]; exact ⟨hl x, hw x ▸ hk x⟩)
theorem Cl.r2 {α β : Type} {wc : va_W} {w ws' : α → β → va_W} {v : Option Value} {fs : List Value} (isC : List Nat) (q0 : Nat) (hM : Ct l E y cc n ret fr lo 0 0 (.ref b :: As) wc (RtE2 v w)) (hR : fr + 1 ≤ 12 ∧ 8 + (n + 11) + lo ≤ 434) (hq : ws[q0]? = some (b, .inr (ci, fs))) (hnd : va_nd isC = true) (hC : isC.map (fun i => ws[i]?) = wc.map some) (hl : ∀ x z, (w x z).length = isC.length) (hw : ∀ x z, setP ws isC (w x z) = ws' x z) (hk : ∀ x z, K v (ws' x z)) : Cl l E y cc n ret ci b As ws K := Cl.of isC q0 hM hR hq hnd hC (fun a c q => by
  obtain ⟨q1, x, z, q2⟩ := q
  rw [q1, q2]; exact ⟨hl x z, hw x z ▸ hk x z⟩)
end CL
