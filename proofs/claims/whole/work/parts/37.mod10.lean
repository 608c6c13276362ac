/-! the model's lines -/
section PSs
variable (b : Nat → Int32) (n p : Nat) (s : PS)
def psStreet : PS := PS.mk (1) s.tN s.tO s.tpd s.hm s.sp s.td s.rl ((tkV b n p 0).toNatClampNeg) ((tkV b n (tkN b n p) 0).toNatClampNeg) s.on s.wr s.nd s.br s.wo
def psRule : PS := PS.mk s.th ((rlR b n p s.tN).2.2.2) (sb s.tO (tkV b n p 0)) s.tpd s.hm s.sp s.td (s.rl + 1) s.kn s.kp (upd s.on s.rl (tkV b n p 0)) (upd s.wr s.rl (tkV b n (tkN b n p) 0)) (upd s.nd s.rl (rlR b n p s.tN).2.1) (upd s.br s.rl (rlR b n p s.tN).2.2.1) s.wo
def psWorth (sg : Int32) : PS := PS.mk s.th (sb s.tN (tkV b n p 0)) s.tO (sb s.tpd (tkV b n p 0)) s.hm s.sp s.td s.rl s.kn s.kp s.on s.wr s.nd s.br (upd s.wo (tkV b n p 0).toNatClampNeg (sg * tkV b n (tkN b n p) 0))
def psHome : PS := PS.mk s.th s.tN (sb s.tO (tkV b n p 0)) s.tpd (sb s.hm (tkV b n p 0)) s.sp s.td s.rl s.kn s.kp s.on s.wr s.nd s.br s.wo
def psStop : PS := PS.mk s.th (sb s.tN (tkV b n p 0)) s.tO s.tpd s.hm (sb s.sp (tkV b n p 0)) s.td s.rl s.kn s.kp s.on s.wr s.nd s.br s.wo
def psToday : PS := PS.mk s.th (sb s.tN (tkV b n p 0)) s.tO s.tpd s.hm s.sp (sb s.td (tkV b n p 0)) s.rl s.kn s.kp s.on s.wr s.nd s.br s.wo
end PSs

def lnX (b : Nat → Int32) (n sa p : Nat) (x : Int32) (s : PS) : Int32 × Nat :=
  if x = 0 then lnStreet b n p sa s.th else if x = 1 then lnRule b n p sa s.rl s.tN else if x = 2 then lnWorth b n p s.tpd else if x = 3 then lnWorth b n p s.tpd else if x = 4 then lnHome b n p s.hm else if x = 5 then lnStop b n p s.sp else if x = 6 then lnStop b n p s.td else (2, sa)
def mlC (b : Nat → Int32) (n p : Nat) (x : Int32) (s : PS) : Int32 × Nat :=
  if x = 0 then ckN b n p 1 6 (ckN b n (tkN b n p) 1 4 (ckC b n (tkN b n (tkN b n p)))) else if x = 1 then rcC b n p s.tN else if x = 2 then lnWorth b n p s.tpd else if x = 3 then lnWorth b n p s.tpd else if x = 4 then lnHome b n p s.hm else if x = 5 then lnStop b n p s.sp else if x = 6 then lnStop b n p s.td else (2, 0)
def mlP (b : Nat → Int32) (n p : Nat) (x : Int32) (s : PS) : PS :=
  if x = 0 then psStreet b n p s else if x = 1 then psRule b n p s else if x = 2 then psWorth b n p s 1 else if x = 3 then psWorth b n p s (-1) else if x = 4 then psHome b n p s else if x = 5 then psStop b n p s else if x = 6 then psToday b n p s else s
theorem lnC_X {b : Nat → Int32} {n : Nat} {tk : Int32} {sa nx : Nat} {s : PS} : lnC b n tk sa nx s = lnX b n sa nx (nmI tk b sa nx) s ∧ lnP b n tk sa nx s = mlP b n nx (nmI tk b sa nx) s := by
  unfold lnC lnP
  rw [nmI_eq]
  by_cases h0 : nmB tk b sa nx 0 = true
  · rw [if_pos h0, if_pos h0, if_pos h0]; exact ⟨rfl, rfl⟩
  rw [if_neg h0, if_neg h0, if_neg h0]
  by_cases h1 : nmB tk b sa nx 1 = true
  · rw [if_pos h1, if_pos h1, if_pos h1]; exact ⟨rfl, rfl⟩
  rw [if_neg h1, if_neg h1, if_neg h1]
  by_cases h3 : nmB tk b sa nx 3 = true
  · rw [if_pos h3, if_pos h3, if_pos h3]; exact ⟨rfl, rfl⟩
  rw [if_neg h3, if_neg h3, if_neg h3]
  by_cases h4 : nmB tk b sa nx 4 = true
  · rw [if_pos h4, if_pos h4, if_pos h4]; exact ⟨rfl, rfl⟩
  rw [if_neg h4, if_neg h4, if_neg h4]
  by_cases h5 : nmB tk b sa nx 5 = true
  · rw [if_pos h5, if_pos h5, if_pos h5]; exact ⟨rfl, rfl⟩
  rw [if_neg h5, if_neg h5, if_neg h5]
  by_cases h6 : nmB tk b sa nx 6 = true
  · rw [if_pos h6, if_pos h6, if_pos h6]; exact ⟨rfl, rfl⟩
  rw [if_neg h6, if_neg h6, if_neg h6]
  by_cases h7 : nmB tk b sa nx 7 = true
  · rw [if_pos h7, if_pos h7, if_pos h7]; exact ⟨rfl, rfl⟩
  rw [if_neg h7, if_neg h7, if_neg h7]
  by_cases h2 : nmB tk b sa nx 2 = true
  · rw [if_pos h2]; exact ⟨rfl, rfl⟩
  rw [if_neg h2]; exact ⟨rfl, rfl⟩
theorem nmI_r {tk : Int32} {b : Nat → Int32} {sa nx : Nat} : ∃ x : Nat, x < 9 ∧ nmI tk b sa nx = if x < 8 then nI x else -4 := by
  rw [nmI_eq]
  repeat' split
  · exact ⟨0, by decide, rfl⟩
  · exact ⟨1, by decide, rfl⟩
  · exact ⟨2, by decide, rfl⟩
  · exact ⟨3, by decide, rfl⟩
  · exact ⟨4, by decide, rfl⟩
  · exact ⟨5, by decide, rfl⟩
  · exact ⟨6, by decide, rfl⟩
  · exact ⟨7, by decide, rfl⟩
  · exact ⟨8, by decide, rfl⟩
section EQ
variable {b : Nat → Int32} {n p : Nat}
theorem ckC_and {p : Nat} : ckC b n p = andT b n (0, p) (clK b n p) := by unfold ckC andT clK; rw [if_pos rfl]
theorem andT_no {r k : Int32 × Nat} (h : ¬ r.1 = 0) : andT b n r k = r := by unfold andT; rw [if_neg h]
theorem two_eq {lo hi : Int32} {r1 : Int32 × Nat} (k0 : Int32 × Nat) (h0 : k0 = if r1.1 = 0 then ckN b n (tkN b n p) lo hi (ckC b n (tkN b n (tkN b n p))) else r1) (h1 : r1.1 = 0 → r1 = (0, tkN b n p)) : k0 = andT b n (othR b n r1 lo hi 0) (clK b n (othR b n r1 lo hi 0).2) := by
  rw [h0]
  by_cases e : r1.1 = 0
  · rw [if_pos e, h1 e, ck_oth]
    by_cases e2 : (othR b n (0, tkN b n p) lo hi 0).1 = 0
    · rw [if_pos e2]
      obtain ⟨-, -, -, -, e3, -⟩ := othR_ok e2
      rw [e3, ckC_and]
    · rw [if_neg e2, andT_no e2]
  · rw [if_neg e, oth_stay e, andT_no e]
theorem lw_eq {so : Int32} : lnWorth b n p so = andT b n (othR b n (othR b n (0, p) 0 5 so) 0 9 0) (clK b n (othR b n (othR b n (0, p) 0 5 so) 0 9 0).2) := by
  apply two_eq (p := p)
  · unfold lnWorth; rw [ckA_oth]
  · intro h; exact (othR_ok h).2.2.2.2.1
theorem lst_eq : ckN b n p 1 6 (ckN b n (tkN b n p) 1 4 (ckC b n (tkN b n (tkN b n p)))) = andT b n (othR b n (othR b n (0, p) 1 6 0) 1 4 0) (clK b n (othR b n (othR b n (0, p) 1 6 0) 1 4 0).2) := by
  apply two_eq (p := p)
  · rw [ck_oth]
  · intro h; exact (othR_ok h).2.2.2.2.1
theorem lsp_eq {so : Int32} : lnStop b n p so = andT b n (othR b n (0, p) 0 5 so) (clK b n (othR b n (0, p) 0 5 so).2) := by
  unfold lnStop
  rw [ckA_oth]
  by_cases e : (othR b n (0, p) 0 5 so).1 = 0
  · rw [if_pos e]
    obtain ⟨-, -, -, -, e3, -⟩ := othR_ok e
    rw [e3, ckC_and]
  · rw [if_neg e, andT_no e]
theorem lhm_eq {so : Int32} : lnHome b n p so = andT b n (othR b n (0, p) 0 3 so) (clK b n (othR b n (0, p) 0 3 so).2) := by
  unfold lnHome
  by_cases hO : tkO b n p = true
  · by_cases h5 : nuC b n p 0 3 = 0
    · have e : ∀ k, ckN b n p 0 3 k = k := fun k => by unfold ckN ckT; rw [if_pos hO, if_pos h5]
      rw [e]
      by_cases h6 : bt1 so (tkV b n p 0) = 1
      · rw [if_pos h6, oth_bit (r := (0, p)) rfl hO h5 h6, andT_no (show ¬ (4 : Int32) = 0 by decide)]
      · rw [if_neg h6, oth_ok (r := (0, p)) rfl hO h5 h6, ckC_and]
    · rw [oth_num (r := (0, p)) rfl hO h5, andT_no h5]
      unfold ckN ckT; rw [if_pos hO, if_neg h5]
  · have e : othR b n (0, p) 0 3 so = (1, tkS b n p) := by unfold othR andT; rw [if_pos rfl, ckT_no hO]
    rw [e, ckN_t hO, andT_no (show ¬ (1 : Int32) = 0 by decide)]
end EQ
def PG (s : PS) (pg : Nat → Int32) : Prop := pg 38 = nI s.rl ∧ pg 39 = s.hm ∧ pg 40 = s.sp ∧ pg 41 = s.td ∧ pg 42 = 0 ∧ (∀ k, k < 6 → pg k = s.wo k) ∧ (∀ k, k < s.rl → pg (6 + 4 * k) = s.on k ∧ pg (6 + 4 * k + 1) = s.wr k ∧ pg (6 + 4 * k + 2) = s.nd k ∧ pg (6 + 4 * k + 3) = s.br k)
def PRm (s : PS) (wt hn ho rn ro : Int32) (pg : Nat → Int32) : Prop := wt = s.tpd ∧ hn = hib s.tN ∧ ho = hib s.tO ∧ rn = nI s.kn ∧ ro = nI s.kp ∧ PG s pg
def GS (s : PS) : Prop := (s.th = 0 ∨ s.th = 1) ∧ Wd 64 s.tN ∧ Wd 16 s.tO ∧ Wd 16 s.hm ∧ Wd 64 s.sp ∧ Wd 64 s.td ∧ s.rl ≤ 8 ∧ (1 ≤ s.kn ∧ s.kn ≤ 6 ∧ 1 ≤ s.kp ∧ s.kp ≤ 4) ∧ (∀ k, k < s.rl → Wd 4 (s.on k) ∧ Wd 6 (s.wr k) ∧ Wd 64 (s.nd k) ∧ Wd 64 (s.br k)) ∧ (∀ k, k < 6 → ¬ s.wo k < -9 ∧ s.wo k ≤ 9)
theorem Wd.up {a c : Nat} {x : Int32} (h : Wd a x) (hc : a ≤ c) : Wd c x := by obtain ⟨y, hy, e⟩ := h; exact ⟨y, by omega, e⟩
theorem Wd.cl {a : Nat} {x : Int32} (h : Wd a x) (ha : a < 2 ^ 31) : x.toNatClampNeg < a := by obtain ⟨y, hy, rfl⟩ := h; rw [nI_clamp (by omega)]; exact hy
theorem othV_in {b : Nat → Int32} {n : Nat} {r : Int32 × Nat} {so : Int32} : Wd 6 (othV b n r 0 5 so) := by
  unfold othV
  split
  · rename_i h; exact nu_W (othR_ok h).2.2.1
  · exact ⟨0, by decide, rfl⟩
section PRs
variable {b : Nat → Int32} {n p : Nat} {s : PS} {wt hn ho rn ro : Int32} {pg : Nat → Int32}
theorem PR_worth (h : PRm s wt hn ho rn ro pg) (hg : GS s) {v v2 sg : Int32} (hv : Wd 6 v) (e : v = tkV b n p 0) (e2 : v2 = tkV b n (tkN b n p) 0) : PRm (psWorth b n p s sg) (sb wt v) (if v ≤ hn then hn else v) ho rn ro (upd pg v.toNatClampNeg (v2 * sg)) := by
  obtain ⟨h1, h2, h3, h4, h5, g1, g2, g3, g4, g5, g6, g7⟩ := h
  have hc := hv.cl (by decide)
  have ht : Wd 64 s.tN := hg.2.1
  have hu : ∀ j, ¬ j = v.toNatClampNeg → upd pg v.toNatClampNeg (v2 * sg) j = pg j := fun j hj => by simp only [upd]; rw [if_neg hj]
  refine ⟨?_, ?_, h3, h4, h5, ?_, ?_, ?_, ?_, ?_, ?_, ?_⟩
  · rw [h1, e]; rfl
  · rw [h2, hib_set ht hv, e]; rfl
  · rw [hu _ (by omega), g1]; rfl
  · rw [hu _ (by omega), g2]; rfl
  · rw [hu _ (by omega), g3]; rfl
  · rw [hu _ (by omega), g4]; rfl
  · rw [hu _ (by omega), g5]
  · intro k hk
    show upd pg v.toNatClampNeg (v2 * sg) k = upd s.wo (tkV b n p 0).toNatClampNeg (sg * tkV b n (tkN b n p) 0) k
    rw [← e, ← e2, Int32.mul_comm sg v2]
    simp only [upd]
    split
    · rfl
    · exact g6 k hk
  · intro k hk
    rw [hu _ (by omega), hu _ (by omega), hu _ (by omega), hu _ (by omega)]
    exact g7 k hk
theorem PR_home (h : PRm s wt hn ho rn ro pg) (hg : GS s) {v : Int32} (hv : Wd 4 v) (e : v = tkV b n p 0) : PRm (psHome b n p s) wt hn (if v ≤ ho then ho else v) rn ro (upd pg 39 (sb (pg 39) v)) := by
  obtain ⟨h1, h2, h3, h4, h5, g1, g2, g3, g4, g5, g6, g7⟩ := h
  have hu : ∀ j, ¬ j = 39 → upd pg 39 (sb (pg 39) v) j = pg j := fun j hj => by simp only [upd]; rw [if_neg hj]
  refine ⟨h1, h2, ?_, h4, h5, ?_, ?_, ?_, ?_, ?_, ?_, ?_⟩
  · rw [h3, hib_set (Wd.up hg.2.2.1 (by decide)) (hv.up (by decide)), e]; rfl
  · rw [hu _ (by omega), g1]; rfl
  · rw [show upd pg 39 (sb (pg 39) v) 39 = sb (pg 39) v by simp [upd], g2, e]; rfl
  · rw [hu _ (by omega), g3]; rfl
  · rw [hu _ (by omega), g4]; rfl
  · rw [hu _ (by omega), g5]
  · intro k hk; rw [hu _ (by omega)]; exact g6 k hk
  · intro k hk
    have : s.rl ≤ 8 := hg.2.2.2.2.2.2.1
    have hk8 : k < s.rl := hk
    rw [hu _ (by omega), hu _ (by omega), hu _ (by omega), hu _ (by omega)]
    exact g7 k hk
theorem PR_stop (h : PRm s wt hn ho rn ro pg) (hg : GS s) {v : Int32} (hv : Wd 6 v) (e : v = tkV b n p 0) : PRm (psStop b n p s) wt (if v ≤ hn then hn else v) ho rn ro (upd pg 40 (sb (pg 40) v)) := by
  obtain ⟨h1, h2, h3, h4, h5, g1, g2, g3, g4, g5, g6, g7⟩ := h
  have hu : ∀ j, ¬ j = 40 → upd pg 40 (sb (pg 40) v) j = pg j := fun j hj => by simp only [upd]; rw [if_neg hj]
  refine ⟨h1, ?_, h3, h4, h5, ?_, ?_, ?_, ?_, ?_, ?_, ?_⟩
  · rw [h2, hib_set hg.2.1 hv, e]; rfl
  · rw [hu _ (by omega), g1]; rfl
  · rw [hu _ (by omega), g2]; rfl
  · rw [show upd pg 40 (sb (pg 40) v) 40 = sb (pg 40) v by simp [upd], g3, e]; rfl
  · rw [hu _ (by omega), g4]; rfl
  · rw [hu _ (by omega), g5]
  · intro k hk; rw [hu _ (by omega)]; exact g6 k hk
  · intro k hk
    have : s.rl ≤ 8 := hg.2.2.2.2.2.2.1
    have hk8 : k < s.rl := hk
    rw [hu _ (by omega), hu _ (by omega), hu _ (by omega), hu _ (by omega)]
    exact g7 k hk
theorem PR_today (h : PRm s wt hn ho rn ro pg) (hg : GS s) {v : Int32} (hv : Wd 6 v) (e : v = tkV b n p 0) : PRm (psToday b n p s) wt (if v ≤ hn then hn else v) ho rn ro (upd pg 41 (sb (pg 41) v)) := by
  obtain ⟨h1, h2, h3, h4, h5, g1, g2, g3, g4, g5, g6, g7⟩ := h
  have hu : ∀ j, ¬ j = 41 → upd pg 41 (sb (pg 41) v) j = pg j := fun j hj => by simp only [upd]; rw [if_neg hj]
  refine ⟨h1, ?_, h3, h4, h5, ?_, ?_, ?_, ?_, ?_, ?_, ?_⟩
  · rw [h2, hib_set hg.2.1 hv, e]; rfl
  · rw [hu _ (by omega), g1]; rfl
  · rw [hu _ (by omega), g2]; rfl
  · rw [hu _ (by omega), g3]; rfl
  · rw [show upd pg 41 (sb (pg 41) v) 41 = sb (pg 41) v by simp [upd], g4, e]; rfl
  · rw [hu _ (by omega), g5]
  · intro k hk; rw [hu _ (by omega)]; exact g6 k hk
  · intro k hk
    have : s.rl ≤ 8 := hg.2.2.2.2.2.2.1
    have hk8 : k < s.rl := hk
    rw [hu _ (by omega), hu _ (by omega), hu _ (by omega), hu _ (by omega)]
    exact g7 k hk
theorem PR_street (h : PRm s wt hn ho rn ro pg) {v v2 : Int32} (e : v = tkV b n p 0) (e2 : v2 = tkV b n (tkN b n p) 0) (h6 : nI (tkV b n p 0).toNatClampNeg = tkV b n p 0) (h7 : nI (tkV b n (tkN b n p) 0).toNatClampNeg = tkV b n (tkN b n p) 0) : PRm (psStreet b n p s) wt hn ho v v2 pg := by
  obtain ⟨h1, h2, h3, h4, h5, g⟩ := h
  exact ⟨h1, h2, h3, by rw [e]; exact h6.symm, by rw [e2]; exact h7.symm, g⟩
theorem PR_rule (h : PRm s wt hn ho rn ro pg) (hg : GS s) (hrl : s.rl < 8) (hv : Wd 6 (tkV b n p 0)) {g : Nat → Int32} (hr : rulP b n p s.rl s.tN pg g) : PRm (psRule b n p s) wt (hib (rlR b n p s.tN).2.2.2) (if tkV b n p 0 ≤ ho then ho else tkV b n p 0) rn ro g := by
  obtain ⟨h1, h2, h3, h4, h5, g1, g2, g3, g4, g5, g6, g7⟩ := h
  have hu : ∀ j, ¬ j = 38 → ¬ j = 6 + 4 * s.rl → ¬ j = 6 + 4 * s.rl + 1 → ¬ j = 6 + 4 * s.rl + 2 → ¬ j = 6 + 4 * s.rl + 3 → g j = pg j := fun j a0 a1 a2 a3 a4 => by rw [hr j, if_neg a0, if_neg a1, if_neg a2, if_neg a3, if_neg a4]
  refine ⟨h1, rfl, ?_, h4, h5, ?_, ?_, ?_, ?_, ?_, ?_, ?_⟩
  · rw [h3, hib_set (Wd.up hg.2.2.1 (by decide)) hv]; rfl
  · rw [hr 38, if_pos rfl]; rfl
  · rw [hu _ (by omega) (by omega) (by omega) (by omega) (by omega), g2]; rfl
  · rw [hu _ (by omega) (by omega) (by omega) (by omega) (by omega), g3]; rfl
  · rw [hu _ (by omega) (by omega) (by omega) (by omega) (by omega), g4]; rfl
  · rw [hu _ (by omega) (by omega) (by omega) (by omega) (by omega), g5]
  · intro k hk; rw [hu _ (by omega) (by omega) (by omega) (by omega) (by omega)]; exact g6 k hk
  · intro k hk
    have hk9 : k < s.rl + 1 := hk
    show g (6 + 4 * k) = upd s.on s.rl (tkV b n p 0) k ∧ g (6 + 4 * k + 1) = upd s.wr s.rl (tkV b n (tkN b n p) 0) k ∧ g (6 + 4 * k + 2) = upd s.nd s.rl (rlR b n p s.tN).2.1 k ∧ g (6 + 4 * k + 3) = upd s.br s.rl (rlR b n p s.tN).2.2.1 k
    simp only [upd]
    by_cases e : k = s.rl
    · subst e
      rw [if_pos rfl, if_pos rfl, if_pos rfl, if_pos rfl, hr, hr, hr, hr]
      rw [if_neg (by omega), if_pos rfl, if_neg (by omega), if_neg (by omega), if_pos rfl, if_neg (by omega), if_neg (by omega), if_neg (by omega), if_pos rfl, if_neg (by omega), if_neg (by omega), if_neg (by omega), if_neg (by omega), if_pos rfl]
      exact ⟨rfl, rfl, rfl, rfl⟩
    · rw [if_neg e, if_neg e, if_neg e, if_neg e]
      rw [hu _ (by omega) (by omega) (by omega) (by omega) (by omega), hu _ (by omega) (by omega) (by omega) (by omega) (by omega), hu _ (by omega) (by omega) (by omega) (by omega) (by omega), hu _ (by omega) (by omega) (by omega) (by omega) (by omega)]
      exact g7 k (by omega)
end PRs
