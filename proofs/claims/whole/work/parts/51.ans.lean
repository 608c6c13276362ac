/-! ===== answers: the model's is the class's ===== -/
section AS
variable {f on wr nd br wo : Nat → Int32} {nt pp rl : Nat} {hm sp td dt : Int32} {w : Nat → Nat}
theorem first_ans (hnt : nt ≤ 6) (hR : RU f nt rl on nd br w) (h39 : f 39 = hm) (h40 : f 40 = sp) : lstF (fun k => decide (¬ 0 < cntM (agM rl (nI (2 ^ k - 1)) f) (2 ^ nt))) (rl + 1) 0 = lstF (fun n => decide ((ag nt rl w (nI (2 ^ n - 1)) (sp) (hm) on nd br) = 0)) (rl + 1) 0 := lst_cong _ _ (fun k _ _ => by
  have h := (ag_many hnt hR h39 h40 (nI (2 ^ k - 1))).zero (p64 hnt)
  refine decide_eq_decide.mpr ?_
  rw [h]; omega)
theorem less_ans (hnt : nt ≤ 6) (hR : RU f nt rl on nd br w) (h39 : f 39 = hm) (h40 : f 40 = sp) : lsF (fun g => decide (0 < cntM (agM rl (nI (2 ^ (rl - g) - 1)) f) (2 ^ nt))) rl 0 = lsF (fun g => decide (¬ (ag nt rl w (nI (2 ^ (rl - g) - 1)) (sp) (hm) on nd br) = 0)) rl 0 := ls_cong _ _ (fun k _ _ => by
  have h := (ag_many hnt hR h39 h40 (nI (2 ^ (rl - k) - 1))).zero (p64 hnt)
  refine decide_eq_decide.mpr ?_
  rw [h]; omega)
theorem could_ans {n : Int32} (hnt : nt ≤ 6) (hrl : rl ≤ 8) (hR : RU f nt rl on nd br w) (hw : ∀ k, k < rl → wr k = nI (w k)) (h39 : f 39 = hm) (h40 : f 40 = sp) : (if okN n nt then couM (agM rl 255 f) (fun s => wrtM rl 255 f (nI s) n) (2 ^ nt) else -1) = if okN n nt then couK (ag nt rl w (nI (2 ^ rl - 1)) sp hm on nd br) (fun s => wrts rl hm on wr nd br (nI s) n) (2 ^ nt) else -1 := by
  rw [cou_eq (p64 hnt) (ag_now hnt hrl hR h39 h40) (g := fun s => wrts rl hm on wr nd br (nI s) n) (g2 := fun s => wrtM rl 255 f (nI s) n) (fun s _ => wrt_M hrl hR hw h39 (nI s) n) (2 ^ nt) (Nat.le_refl _)]
theorem pure_ans {x : Int32} (hnt : nt ≤ 6) (hrl : rl ≤ 8) (hR : RU f nt rl on nd br w) (hw : ∀ k, k < rl → wr k = nI (w k)) (h39 : f 39 = hm) (h40 : f 40 = sp) : (if ¬ x < 0 ∧ ¬ 1 < x then (if x = 0 then nI (dyK (fun s => agM rl 255 f s && decide (begTM rl 255 f (nI s) 6 = nI s)) 0 (2 ^ nt)).1 else (dyK (fun s => agM rl 255 f s && decide (begTM rl 255 f (nI s) 6 = nI s)) 0 (2 ^ nt)).2.1) else -1) = if x = 0 ∨ x = 1 then (if x = 0 then bcl (purK (fun s => begs rl hm sp on wr nd br (nI s)) (ag nt rl w (nI (2 ^ rl - 1)) sp hm on nd br) (2 ^ nt)) else lstF (inL (purK (fun s => begs rl hm sp on wr nd br (nI s)) (ag nt rl w (nI (2 ^ rl - 1)) sp hm on nd br) (2 ^ nt))) 64 0) else -1 :=
  (pure_eq hnt (pur_RP (ag_now hnt hrl hR h39 h40) (p64 hnt) (fun s _ => by rw [beg_M hrl hR hw h39 h40 (nI s)]))).symm
theorem RU.up {a : Nat} {v : Int32} (h : RU f nt rl on nd br w) (hrl : rl ≤ 8) (ha : 38 ≤ a) : RU (upd f a v) nt rl on nd br w := by
  intro k hk
  rw [pk_un (by omega), pk_un (by omega), pk_un (by omega), pk_un (by omega)]
  exact h k hk
theorem p256 (h : pp ≤ 4) : 2 ^ pp ≤ 256 := Nat.le_trans (Nat.pow_le_pow_right (by decide) h) (by decide)
theorem fewest_ans {n wh : Int32} {P : Prop} [Decidable P] (hnt : nt ≤ 6) (hpp : pp ≤ 4) (hrl : rl ≤ 8) (hR : RU f nt rl on nd br w) (h39 : f 39 = hm) (h40 : f 40 = sp) : (if okN n nt then (if ¬ wh < 0 ∧ ¬ 1 < wh then (if (fwM (fun s => decide (nI s &&& f 39 = 0)) (fun s => anyB (cbQ rl 255 (upd f 39 (f 39 ||| nI s)) n P) (2 ^ nt)) (2 ^ pp)).2 = -4 then (fwM (fun s => decide (nI s &&& f 39 = 0)) (fun s => anyB (cbQ rl 255 (upd f 39 (f 39 ||| nI s)) n P) (2 ^ nt)) (2 ^ pp)).2 else if wh = 1 then (fwM (fun s => decide (nI s &&& f 39 = 0)) (fun s => anyB (cbQ rl 255 (upd f 39 (f 39 ||| nI s)) n P) (2 ^ nt)) (2 ^ pp)).2 else (fwM (fun s => decide (nI s &&& f 39 = 0)) (fun s => anyB (cbQ rl 255 (upd f 39 (f 39 ||| nI s)) n P) (2 ^ nt)) (2 ^ pp)).1) else -1) else -1) = if okN n nt then (if wh = 0 ∨ wh = 1 then (if wh = 0 then szF (fewK (if ¬ P then HVj n.toNatClampNeg ^^^ -1 else HVj n.toNatClampNeg) hm (fun s => (ag nt rl w (nI (2 ^ rl - 1)) (sp) (hm ||| nI s) on nd br)) (2 ^ pp)) else fewK (if ¬ P then HVj n.toNatClampNeg ^^^ -1 else HVj n.toNatClampNeg) hm (fun s => (ag nt rl w (nI (2 ^ rl - 1)) (sp) (hm ||| nI s) on nd br)) (2 ^ pp)) else -1) else -1 := by
  by_cases c : okN n nt
  · rw [if_pos c, if_pos c]
    obtain ⟨j, hj, rfl⟩ := okN_ex c (by omega)
    rw [nI_clamp (by omega)]
    subst h39
    exact (fw_ans (few_rel (p256 hpp) (fun s _ => decide_eq_true_iff.symm) (fun s _ => can_iff hnt (show j < 6 by omega) (ag_now hnt hrl (hR.up hrl (by decide)) pk_us (by rw [pk_un (by decide)]; exact h40))) _ (Nat.le_refl _))).symm
  · rw [if_neg c, if_neg c]
theorem never_iff {s j : Nat} (hj : j < 32) : (nI s &&& (sp ||| ((1 : Int32) <<< (nI j &&& 31))) = 0) ↔ (nI s &&& sp = 0 ∧ bt1 (nI s) (nI j) = 0) := by
  rw [b_zero, b_zero, bt1_z hj]
  refine ⟨fun h => ⟨fun i hi => ?_, ?_⟩, fun h i hi => ?_⟩
  · have := h i hi
    rw [b_and, b_or] at this
    rw [b_and]
    cases h1 : bt (nI s) i <;> cases h2 : bt sp i <;> simp [h1, h2] at this ⊢
  · have := h j hj
    rw [b_and, b_or, b_pow j hj j hj, decide_eq_true rfl, Bool.or_true, Bool.and_true] at this
    exact this
  · rw [b_and, b_or, b_pow j hj i hi]
    have h1 := h.1 i hi
    rw [b_and] at h1
    by_cases e : j = i
    · subst e; rw [h.2]; rfl
    · rw [decide_eq_false e, Bool.or_false]; exact h1
theorem police_ans {n wh : Int32} (hnt : nt ≤ 6) (hrl : rl ≤ 8) (hR : RU f nt rl on nd br w) (h39 : f 39 = hm) (h40 : f 40 = sp) : (if okN n nt then (if ¬ wh < 0 ∧ ¬ 1 < wh then (if (fwM (fun s => decide (nI s &&& f 40 = 0 ∧ bt1 (nI s) n = 0)) (fun s => ! anyB (cbQ rl 255 (upd f 40 (f 40 ||| nI s)) n True) (2 ^ nt)) (2 ^ nt)).2 = -4 then (fwM (fun s => decide (nI s &&& f 40 = 0 ∧ bt1 (nI s) n = 0)) (fun s => ! anyB (cbQ rl 255 (upd f 40 (f 40 ||| nI s)) n True) (2 ^ nt)) (2 ^ nt)).2 else if wh = 1 then (fwM (fun s => decide (nI s &&& f 40 = 0 ∧ bt1 (nI s) n = 0)) (fun s => ! anyB (cbQ rl 255 (upd f 40 (f 40 ||| nI s)) n True) (2 ^ nt)) (2 ^ nt)).2 else (fwM (fun s => decide (nI s &&& f 40 = 0 ∧ bt1 (nI s) n = 0)) (fun s => ! anyB (cbQ rl 255 (upd f 40 (f 40 ||| nI s)) n True) (2 ^ nt)) (2 ^ nt)).1) else -1) else -1) = if okN n nt then (if wh = 0 ∨ wh = 1 then (if wh = 0 then szF (polK (HVj n.toNatClampNeg) (sp ||| ((1 : Int32) <<< (n &&& 31))) (fun s => (ag nt rl w (nI (2 ^ rl - 1)) (sp ||| nI s) (hm) on nd br)) (2 ^ nt)) else polK (HVj n.toNatClampNeg) (sp ||| ((1 : Int32) <<< (n &&& 31))) (fun s => (ag nt rl w (nI (2 ^ rl - 1)) (sp ||| nI s) (hm) on nd br)) (2 ^ nt)) else -1) else -1 := by
  by_cases c : okN n nt
  · rw [if_pos c, if_pos c]
    obtain ⟨j, hj, rfl⟩ := okN_ex c (by omega)
    rw [nI_clamp (by omega)]
    subst h40
    refine (fw_ans (pol_rel (Nat.le_trans (p64 hnt) (by decide)) (fun s _ => (never_iff (by omega)).trans decide_eq_true_iff.symm) (fun s _ => ?_) _ (Nat.le_refl _))).symm
    have h := can_true hnt (show j < 6 by omega) (ag_now (hm := hm) (sp := f 40 ||| nI s) hnt hrl (hR.up hrl (show 38 ≤ 40 by decide)) (by rw [pk_un (by decide)]; exact h39) pk_us)
    rw [h]
    cases anyB (cbQ rl 255 (upd f 40 (f 40 ||| nI s)) (nI j) True) (2 ^ nt) <;> simp
  · rw [if_neg c, if_neg c]
theorem richest_ans {wh : Int32} (hnt : nt ≤ 6) (hrl : rl ≤ 8) (hR : RU f nt rl on nd br w) (h39 : f 39 = hm) (h40 : f 40 = sp) (hWo : ∀ k, k < 6 → f k = wo k ∧ ¬ wo k < -9 ∧ wo k ≤ 9) : (if ¬ wh < 0 ∧ ¬ 1 < wh then (if (riM (agM rl 255 f) (fun s => sumM f (nI s) nt) (2 ^ nt)).2 = -4 then (riM (agM rl 255 f) (fun s => sumM f (nI s) nt) (2 ^ nt)).2 else if wh = 0 then (riM (agM rl 255 f) (fun s => sumM f (nI s) nt) (2 ^ nt)).2 else 100 + (riM (agM rl 255 f) (fun s => sumM f (nI s) nt) (2 ^ nt)).1) else -1) = if wh = 0 ∨ wh = 1 then (if wh = 0 then (ricK (ag nt rl w (nI (2 ^ rl - 1)) sp hm on nd br) (fun s => sumW wo (nI s) nt) (2 ^ nt)).1 else if (ricK (ag nt rl w (nI (2 ^ rl - 1)) sp hm on nd br) (fun s => sumW wo (nI s) nt) (2 ^ nt)).1 = -4 then (ricK (ag nt rl w (nI (2 ^ rl - 1)) sp hm on nd br) (fun s => sumW wo (nI s) nt) (2 ^ nt)).1 else 100 + (ricK (ag nt rl w (nI (2 ^ rl - 1)) sp hm on nd br) (fun s => sumW wo (nI s) nt) (2 ^ nt)).2) else -1 := by
  have e : (fun s => sumM f (nI s) nt) = fun s => sumW wo (nI s) nt := funext (fun s => (sum_eq nt (fun k hk => (hWo k (by omega)).1)).symm)
  rw [e]
  refine (ric_eq (p64 hnt) (ag_now hnt hrl hR h39 h40) (fun s => ?_)).symm
  have h := (sum_in (wo := wo) (s := nI s) nt hnt (fun k hk => (hWo k (by omega)).2)).1
  intro q
  have h2 := Int32.le_iff_toInt_le.mp q
  rw [show (-100 : Int32).toInt = -100 by decide] at h2
  omega
theorem odds_ans {x n wh : Int32} (hnt : nt ≤ 6) (hrl : rl ≤ 8) (hR : RU f nt rl on nd br w) (h39 : f 39 = hm) (h40 : f 40 = sp) : (if ¬ x < 0 ∧ ¬ 10 < x then (if okN n nt then (if ¬ wh < 0 ∧ ¬ 1 < wh then lowT (expM x.toNatClampNeg rl (mm0 nt rl f n) (2 ^ rl)) (10 ^ rl) wh else -1) else -1) else -1) = if okN n nt then expR nt rl w sp hm on nd br x 0 n.toNatClampNeg wh else -1 := by
  by_cases c : okN n nt
  · rw [if_pos c, if_pos c]
    obtain ⟨j, hj, rfl⟩ := okN_ex c (by omega)
    rw [nI_clamp (by omega)]
    exact (expR_eq hrl (fun c _ => meas_0 hnt (show j < 6 by omega) (ag_many hnt hR h39 h40 (nI c)))).symm
  · rw [if_neg c, if_neg c, ite_self]
theorem none_ans {x wh : Int32} (hnt : nt ≤ 6) (hrl : rl ≤ 8) (hR : RU f nt rl on nd br w) (h39 : f 39 = hm) (h40 : f 40 = sp) : (if ¬ x < 0 ∧ ¬ 10 < x then (if ¬ wh < 0 ∧ ¬ 1 < wh then lowT (expM x.toNatClampNeg rl (mm1 nt rl f) (2 ^ rl)) (10 ^ rl) wh else -1) else -1) = expR nt rl w sp hm on nd br x 1 0 wh :=
  (expR_eq hrl (fun c _ => meas_1 (p64 hnt) (ag_many hnt hR h39 h40 (nI c)))).symm
theorem mean_ans {x wh : Int32} (hnt : nt ≤ 6) (hrl : rl ≤ 8) (hR : RU f nt rl on nd br w) (h39 : f 39 = hm) (h40 : f 40 = sp) : (if ¬ x < 0 ∧ ¬ 10 < x then (if ¬ wh < 0 ∧ ¬ 1 < wh then lowT (expM x.toNatClampNeg rl (mm2 nt rl f) (2 ^ rl)) (10 ^ rl) wh else -1) else -1) = expR nt rl w sp hm on nd br x 2 0 wh :=
  (expR_eq hrl (fun c _ => meas_2 (p64 hnt) (ag_many hnt hR h39 h40 (nI c)))).symm
theorem fit_now {s2 : Nat → Nat} {se : Nat} {sn sh sq : Nat → Int32} (hnt : nt ≤ 6) (hrl : rl ≤ 8) (hR : RU f nt rl on nd br w) (h39 : f 39 = hm) (h40 : f 40 = sp) (hsn : ∀ j, j < se → sn j = nI (s2 j) ∧ s2 j < nt ∧ sq (2 * j) = nI (s2 j) ∧ sq (2 * j + 1) = sh j ∧ (sh j = 0 ∨ sh j = 1)) : RP (fitK s2 sh (ag nt rl w (nI (2 ^ rl - 1)) sp hm on nd br) se) (fiP rl 255 f sq se) (2 ^ nt) :=
  fit_RP (ag_now hnt hrl hR h39 h40) se (fun j hj => ⟨Nat.lt_of_lt_of_le (hsn j hj).2.1 hnt, (hsn j hj).2.2.1, (hsn j hj).2.2.2.1, (hsn j hj).2.2.2.2⟩)
theorem drift_ans {sd n wh : Int32} (hrl : rl ≤ 8) (hR : RU f nt rl on nd br w) (hw : ∀ k, k < rl → wr k = nI (w k)) (h39 : f 39 = hm) (h40 : f 40 = sp) (h41 : f 41 = td) : (if ¬ n < 1 ∧ ¬ 60 < n then (if ¬ wh < 0 ∧ ¬ 1 < wh then (if wh = 0 then (drK (outM rl 255 f) nt sd (f 41) n.toNatClampNeg).2.1 else nI (drK (outM rl 255 f) nt sd (f 41) n.toNatClampNeg).2.2) else -1) else -1) = if n < 1 then -1 else if 60 < n then -1 else if wh = 0 ∨ wh = 1 then (if wh = 0 then (drK (outc rl hm sp on wr nd br) nt sd td n.toNatClampNeg).2.1 else nI (drK (outc rl hm sp on wr nd br) nt sd td n.toNatClampNeg).2.2) else -1 := by
  rw [inS, h41, dr_c (out_M hrl hR hw h39 h40) nt sd td n.toNatClampNeg]
  by_cases c : wh = 0 ∨ wh = 1
  · rw [if_pos c, if_pos (in01.mpr c)]
  · rw [if_neg c, if_neg (fun q => c (in01.mp q))]
theorem count_ans {x la : Int32} {se tl sz : Nat} {kp lg lh : Nat → Int32} (hrl : rl ≤ 8) (hR : RU f nt rl on nd br w) (h39 : f 39 = hm) (h41 : f 41 = td) (hTd : Wd 64 td) (hl : lh 0 = nI sz) (ela : la = laC (lg 0)) (hlg : lg 0 = -4 ∨ (¬ lg 0 < 0 ∧ ¬ 2 < lg 0)) : (if x = 0 then nI se else if x = 1 then nI (kcN kp 2) else if x = 2 then nI tl else if x = 3 then (if lg 0 = -4 then -4 else lh 0) else if x = 4 then btsK (f 41) 8 else if x = 5 then nI (cntM (hpM 255 f (f 41)) rl) else -1) = if x = 0 then nI se else if x = 1 then nI (kcN kp 2) else if x = 2 then nI tl else if x = 3 then (if la = -1 then -4 else nI sz) else if x = 4 then bci td else if x = 5 then bci (orF (hp hm on nd br td) (fun k => nI k) rl) else -1 := by
  have e3 : (if lg 0 = -4 then (-4 : Int32) else lh 0) = if la = -1 then -4 else nI sz := by
    rw [hl, ela]
    unfold laC
    by_cases c : lg 0 = -4
    · rw [if_pos c, if_pos c, if_pos rfl]
    · rw [if_neg c, if_neg c, if_neg]
      rcases hlg with h | h
      · exact absurd h c
      · exact fun q => h.1 (by rw [q]; decide)
  have e4 : btsK (f 41) 8 = bci td := by
    obtain ⟨t, ht, rfl⟩ := hTd
    rw [h41, bts_all t (by omega), pcn_all t (by omega)]
  have e5 : nI (cntM (hpM 255 f (f 41)) rl) = bci (orF (hp hm on nd br td) (fun k => nI k) rl) := by
    rw [h41]
    exact (cnt5 hrl (fun k hk => hp_M hrl hR h39 td k hk)).symm
  rw [e3, e4, e5]
end AS
