def ftM (sq : Nat → Int32) (x : Int32) (b0 : Bool) : Nat → Bool
  | 0 => b0
  | n + 1 => ftM sq x b0 n && decide (bt1 x (sq (2 * n)) = sq (2 * n + 1))
def fiP (rl : Nat) (th : Int32) (f sq : Nat → Int32) (se : Nat) : Nat → Bool := fun s => ftM sq (nI s) (decide (outM rl th f (nI s) = nI s)) se
theorem cntM_cong {p q : Nat → Bool} : ∀ n, (∀ k, k < n → p k = q k) → cntM p n = cntM q n := by
  intro n
  induction n with
  | zero => intro _; rfl
  | succ n ih => intro h; simp only [cntM]; rw [ih (fun k hk => h k (by omega)), h n (by omega)]
theorem cntM_sub {p q : Nat → Bool} : ∀ n, (∀ k, k < n → p k = true → q k = true) → cntM p n ≤ cntM q n := by
  intro n
  induction n with
  | zero => intro _; exact Nat.le_refl 0
  | succ n ih =>
    intro h
    have h1 := ih (fun k hk => h k (by omega))
    simp only [cntM]
    by_cases e : p n = true
    · rw [if_pos e, if_pos (h n (by omega) e)]; omega
    · rw [if_neg e]; split <;> omega
def yesM (p : Nat → Bool) (n N : Nat) : Nat := cntM (fun s => decide (bt1 (nI s) (nI n) = 1) && p s) N
theorem yesM_le (p : Nat → Bool) (n N : Nat) : yesM p n N ≤ cntM p N := cntM_sub N (fun k _ h => by simp only [Bool.and_eq_true] at h; exact h.2)
def wstM (p : Nat → Bool) (n N : Nat) : Nat := if cntM p N - yesM p n N < yesM p n N then yesM p n N else cntM p N - yesM p n N
def akM (p : Nat → Bool) (N : Nat) : Nat → Nat × Int32
  | 0 => (cntM p N, -4)
  | n + 1 => if wstM p n N < (akM p N n).1 then (wstM p n N, nI n) else akM p N n
theorem akM_le (p : Nat → Bool) (N : Nat) : ∀ n, (akM p N n).1 ≤ cntM p N := by
  intro n
  induction n with
  | zero => exact Nat.le_refl _
  | succ n ih =>
    simp only [akM]
    split
    · rename_i h; show wstM p n N ≤ _; omega
    · exact ih
theorem drB_eq (sd : Int32) : (sd >>> ((16 : Int32) &&& 31)) &&& 32767 = drB sd := by
  unfold drB
  apply b_ext
  intro i hi
  rw [b_and, b_and, show (16 : Int32) = nI 16 from rfl, b_sshr 16 (by decide) sd hi, b_ushr 16 (by decide) sd i]
  by_cases h : i < 16
  · rw [if_pos (by omega)]
  · have : bt 32767 i = false := by
      have := (show ∀ j : Nat, j < 32 → ¬ j < 16 → bt 32767 j = false by decide +kernel) i hi h
      exact this
    rw [this]
    simp
def cpS (f : Nat → Int32) (a b n : Nat) : Nat → Int32 := fun j => if b ≤ j ∧ j < b + n then f (a + (j - b)) else f j
theorem cpS_0 (f : Nat → Int32) (a b : Nat) : cpS f a b 0 = f := by
  funext j
  unfold cpS
  rw [if_neg (by omega)]
theorem cpS_s {f : Nat → Int32} {a b n : Nat} (h : a + 43 ≤ b ∨ b + 43 ≤ a) (hn : n < 43) : upd (cpS f a b n) (b + n) (cpS f a b n (a + n)) = cpS f a b (n + 1) := by
  have e : cpS f a b n (a + n) = f (a + n) := by unfold cpS; rw [if_neg (by omega)]
  rw [e]
  funext j
  unfold upd cpS
  by_cases h1 : j = b + n
  · subst h1
    rw [if_pos rfl, if_pos (by omega)]
    congr 1
    omega
  · rw [if_neg h1]
    by_cases h2 : b ≤ j ∧ j < b + n
    · rw [if_pos h2, if_pos (by omega)]
    · rw [if_neg h2, if_neg (by omega)]
def flS (c : Nat → Int32) (a n : Nat) : Nat → Int32 := fun p => if a ≤ p ∧ p < a + n then 0 else c p
theorem flS_0 (c : Nat → Int32) (a : Nat) : flS c a 0 = c := by
  funext j
  unfold flS
  rw [if_neg (by omega)]
theorem flS_s (c : Nat → Int32) (a n : Nat) : upd (flS c a n) (a + n) 0 = flS c a (n + 1) := by
  funext j
  unfold upd flS
  by_cases h1 : j = a + n
  · subst h1
    rw [if_pos rfl, if_pos (by omega)]
  · rw [if_neg h1]
    by_cases h2 : a ≤ j ∧ j < a + n
    · rw [if_pos h2, if_pos (by omega)]
    · rw [if_neg h2, if_neg (by omega)]
theorem wst_eq {n y : Nat} : (if y ≤ n - y then nI (n - y) else nI y) = nI (if n - y < y then y else n - y) := by
  by_cases q : n - y < y
  · rw [if_neg (by omega), if_pos q]
  · rw [if_pos (by omega), if_neg q]
def layV (la v : Int32) : Int32 := if la = 0 then (v <<< ((24 : Int32) &&& 31)) >>> ((24 : Int32) &&& 31) else if la = 1 then (v <<< ((16 : Int32) &&& 31)) >>> ((16 : Int32) &&& 31) else v
theorem c_X5_odds (l : Launch) (E : VE) (m0 : Nat) (ma : Nat) (mp : Nat) (mt : Nat) (mc : Nat) (ml : Nat) (mn : Nat) (mk : Nat) (mg : Nat) (mh : Nat) (mq : Nat) (nt : Nat) (pp : Nat) (rl : Nat) (tl : Nat) (se : Nat) (rn : Int32) (ro : Int32) (to : Int32) (wt : Int32) (hn : Int32) (ho : Int32) (fa : Int32) (bk : Int32) (ba : Int32) (spt : Int32) (hre : Int32) (tok : Int32) (val : Int32) (tn : Int32) (f : Nat → Int32) (x : Int32) (n : Int32) (wh : Int32) (h_rl : rl ≤ 8) (h_38 : f 38 = nI rl) (h_nt : nt ≤ 6) : Ct l E yX5_odds cX5_odds 4 (Option.some FieldType.long) 5 124 0 0 [.ref m0, .int (x), .int (n), .int (wh)] [(m0, .inr (5, [.ref ma, .int (nI nt), .int (nI pp), .int (255), .ref mp, .int (rn), .int (ro), .int (to), .int (wt), .int (hn), .int (ho), .ref mt, .int (nI tl), .int (fa), .int (bk), .int (ba), .int (spt), .int (hre), .int (tok), .int (val), .ref mc, .ref ml, .ref mn, .int (nI se), .ref mk, .ref mg, .ref mh, .ref mq, .int (tn)])), (ma, .inl (E.2.1 1, 172, .inl (f)))] (Rt (some (.long (if ¬ x < 0 ∧ ¬ 10 < x then (if okN n nt then (if ¬ wh < 0 ∧ ¬ 1 < wh then lowT (expM x.toNatClampNeg rl (mm0 nt rl f n) (2 ^ rl)) (10 ^ rl) wh else -1) else -1) else -1))) [(m0, .inr (5, [.ref ma, .int (nI nt), .int (nI pp), .int (255), .ref mp, .int (rn), .int (ro), .int (to), .int (wt), .int (hn), .int (ho), .ref mt, .int (nI tl), .int (fa), .int (bk), .int (ba), .int (spt), .int (hre), .int (tok), .int (val), .ref mc, .ref ml, .ref mn, .int (nI se), .ref mk, .ref mg, .ref mh, .ref mq, .int (tn)])), (ma, .inl (E.2.1 1, 172, .inl (f)))]) := by
  refine Ct.of (own := RX5) (nm := "odds") (lv := [(0, .ref m0), (1, .int (x)), (2, .int (n)), (3, .int (wh))]) (by decide) rfl rfl (Nat.le_of_ble_eq_true rfl) rfl ?_
  refine v_iload_n (pc := 0) 1 dX5_odds_0 rfl rfl ?_
  refine v_i2l (pc := 1) dX5_odds_1 ?_
  refine v_lconst (pc := 2) (v := 0) dX5_odds_2 (by decide) ?_
  refine v_ldc2 (pc := 3) dX5_odds_3 tb_1132 ?_
  refine v_callS (pc := 6) (rest := []) [] lk_880 (c_X5_in l E (Int32.toInt64 (x)) 0 10) dX5_odds_6 rfl rfl (Nat.le_of_ble_eq_true rfl) (by decide) (by decide) rfl (Rt.len rfl) (Rt.go ?_)
  refine v_w (ws' := [(m0, .inr (5, [.ref ma, .int (nI nt), .int (nI pp), .int (255), .ref mp, .int (rn), .int (ro), .int (to), .int (wt), .int (hn), .int (ho), .ref mt, .int (nI tl), .int (fa), .int (bk), .int (ba), .int (spt), .int (hre), .int (tok), .int (val), .ref mc, .ref ml, .ref mn, .int (nI se), .ref mk, .ref mg, .ref mh, .ref mq, .int (tn)])), (ma, .inl (E.2.1 1, 172, .inl (f)))]) rfl ?_
  refine v_st (st' := [.int (if ¬ (Int32.toInt64 (x)) < 0 ∧ ¬ 10 < (Int32.toInt64 (x)) then 1 else 0)]) rfl ?_
  refine v_st (st' := [.int (if ¬ x < 0 ∧ ¬ 10 < x then 1 else 0)]) (ite_st (inK (a := 0) (b := 10)) _) ?_
  refine v_ifB_eq (pc := 9) 41 dX5_odds_9 (by decide) (fun c_9 => ?_) (fun c_9 => ?_)
  · skip
    refine v_ldc2 (pc := 41) dX5_odds_41 tb_1140 ?_
    refine v_lret (pc := 44) dX5_odds_44 rfl ⟨rfl, rfl⟩ (Rt.l2 ?_ ?_)
    · skip
      rw [if_neg c_9]
    · skip
      rfl
  · skip
    refine v_aload_n (pc := 12) 0 dX5_odds_12 rfl rfl ?_
    refine v_iload_n (pc := 13) 2 dX5_odds_13 rfl rfl ?_
    refine v_callV (pc := 14) (rest := []) [0] 0 lk_966 (c_X5_isNote l E m0 ma mp mt mc ml mn mk mg mh mq nt pp tl se 255 rn ro to wt hn ho fa bk ba spt hre tok val tn n (by first | assumption | omega)) dX5_odds_14 rfl rfl (Nat.le_of_ble_eq_true rfl) (by decide) rfl rfl rfl (by decide) rfl (Rt.len rfl) (Rt.go ?_)
    refine v_w (ws' := [(m0, .inr (5, [.ref ma, .int (nI nt), .int (nI pp), .int (255), .ref mp, .int (rn), .int (ro), .int (to), .int (wt), .int (hn), .int (ho), .ref mt, .int (nI tl), .int (fa), .int (bk), .int (ba), .int (spt), .int (hre), .int (tok), .int (val), .ref mc, .ref ml, .ref mn, .int (nI se), .ref mk, .ref mg, .ref mh, .ref mq, .int (tn)])), (ma, .inl (E.2.1 1, 172, .inl (f)))]) rfl ?_
    refine v_st (st' := [.int (if okN n nt then 1 else 0)]) rfl ?_
    refine v_ifB_eq (pc := 17) 41 dX5_odds_17 (by decide) (fun c_17 => ?_) (fun c_17 => ?_)
    · skip
      refine v_ldc2 (pc := 41) dX5_odds_41 tb_1140 ?_
      refine v_lret (pc := 44) dX5_odds_44 rfl ⟨rfl, rfl⟩ (Rt.l2 ?_ ?_)
      · skip
        rw [if_pos c_9, if_neg c_17]
      · skip
        rfl
    · skip
      refine v_iload_n (pc := 20) 3 dX5_odds_20 rfl rfl ?_
      refine v_i2l (pc := 21) dX5_odds_21 ?_
      refine v_lconst (pc := 22) (v := 0) dX5_odds_22 (by decide) ?_
      refine v_lconst (pc := 23) (v := 1) dX5_odds_23 (by decide) ?_
      refine v_callS (pc := 24) (rest := []) [] lk_880 (c_X5_in l E (Int32.toInt64 (wh)) 0 1) dX5_odds_24 rfl rfl (Nat.le_of_ble_eq_true rfl) (by decide) (by decide) rfl (Rt.len rfl) (Rt.go ?_)
      refine v_w (ws' := [(m0, .inr (5, [.ref ma, .int (nI nt), .int (nI pp), .int (255), .ref mp, .int (rn), .int (ro), .int (to), .int (wt), .int (hn), .int (ho), .ref mt, .int (nI tl), .int (fa), .int (bk), .int (ba), .int (spt), .int (hre), .int (tok), .int (val), .ref mc, .ref ml, .ref mn, .int (nI se), .ref mk, .ref mg, .ref mh, .ref mq, .int (tn)])), (ma, .inl (E.2.1 1, 172, .inl (f)))]) rfl ?_
      refine v_st (st' := [.int (if ¬ (Int32.toInt64 (wh)) < 0 ∧ ¬ 1 < (Int32.toInt64 (wh)) then 1 else 0)]) rfl ?_
      refine v_st (st' := [.int (if ¬ wh < 0 ∧ ¬ 1 < wh then 1 else 0)]) (ite_st (inK (a := 0) (b := 1)) _) ?_
      refine v_ifB_eq (pc := 27) 41 dX5_odds_27 (by decide) (fun c_27 => ?_) (fun c_27 => ?_)
      · skip
        refine v_ldc2 (pc := 41) dX5_odds_41 tb_1140 ?_
        refine v_lret (pc := 44) dX5_odds_44 rfl ⟨rfl, rfl⟩ (Rt.l2 ?_ ?_)
        · skip
          rw [if_pos c_9, if_pos c_17, if_neg c_27]
        · skip
          rfl
      · skip
        obtain ⟨v, hv, rfl⟩ := le_ex (b := 10) c_9.1 c_9.2 (by decide)
        have hvc : (nI v).toNatClampNeg = v := nI_clamp (by omega)
        refine v_aload_n (pc := 30) 0 dX5_odds_30 rfl rfl ?_
        refine v_iload_n (pc := 31) 1 dX5_odds_31 rfl rfl ?_
        refine v_iload_n (pc := 32) 2 dX5_odds_32 rfl rfl ?_
        refine v_iconst (pc := 33) (v := 0) dX5_odds_33 (by decide) ?_
        refine v_iload_n (pc := 34) 3 dX5_odds_34 rfl rfl ?_
        refine v_callV (pc := 35) (rest := []) [0, 1] 0 lk_1133 (c0_X5_meanOf l E m0 ma mp mt mc ml mn mk mg mh mq nt pp rl tl se 255 rn ro to wt hn ho fa bk ba spt hre tok val tn f v n wh (by first | assumption | omega) (by first | assumption | omega) (by first | assumption | omega) (by first | assumption | omega)) dX5_odds_35 rfl rfl (Nat.le_of_ble_eq_true rfl) (by decide) rfl rfl rfl (by decide) rfl (Rt.len rfl) (Rt.go ?_)
        refine v_w (ws' := [(m0, .inr (5, [.ref ma, .int (nI nt), .int (nI pp), .int (255), .ref mp, .int (rn), .int (ro), .int (to), .int (wt), .int (hn), .int (ho), .ref mt, .int (nI tl), .int (fa), .int (bk), .int (ba), .int (spt), .int (hre), .int (tok), .int (val), .ref mc, .ref ml, .ref mn, .int (nI se), .ref mk, .ref mg, .ref mh, .ref mq, .int (tn)])), (ma, .inl (E.2.1 1, 172, .inl (f)))]) rfl ?_
        refine v_st (st' := [.long (lowT (expM v rl (mm0 nt rl f n) (2 ^ rl)) (10 ^ rl) wh)]) rfl ?_
        refine v_goto (pc := 38) 44 dX5_odds_38 (by decide) ?_
        refine v_lret (pc := 44) dX5_odds_44 rfl ⟨rfl, rfl⟩ (Rt.l2 ?_ ?_)
        · skip
          rw [if_pos c_9, if_pos c_17, if_pos c_27, hvc]
        · skip
          rfl
theorem c_X5_none (l : Launch) (E : VE) (m0 : Nat) (ma : Nat) (mp : Nat) (mt : Nat) (mc : Nat) (ml : Nat) (mn : Nat) (mk : Nat) (mg : Nat) (mh : Nat) (mq : Nat) (nt : Nat) (pp : Nat) (rl : Nat) (tl : Nat) (se : Nat) (rn : Int32) (ro : Int32) (to : Int32) (wt : Int32) (hn : Int32) (ho : Int32) (fa : Int32) (bk : Int32) (ba : Int32) (spt : Int32) (hre : Int32) (tok : Int32) (val : Int32) (tn : Int32) (f : Nat → Int32) (x : Int32) (wh : Int32) (h_rl : rl ≤ 8) (h_38 : f 38 = nI rl) (h_nt : nt ≤ 6) : Ct l E yX5_none cX5_none 3 (Option.some FieldType.long) 5 122 0 0 [.ref m0, .int (x), .int (wh)] [(m0, .inr (5, [.ref ma, .int (nI nt), .int (nI pp), .int (255), .ref mp, .int (rn), .int (ro), .int (to), .int (wt), .int (hn), .int (ho), .ref mt, .int (nI tl), .int (fa), .int (bk), .int (ba), .int (spt), .int (hre), .int (tok), .int (val), .ref mc, .ref ml, .ref mn, .int (nI se), .ref mk, .ref mg, .ref mh, .ref mq, .int (tn)])), (ma, .inl (E.2.1 1, 172, .inl (f)))] (Rt (some (.long (if ¬ x < 0 ∧ ¬ 10 < x then (if ¬ wh < 0 ∧ ¬ 1 < wh then lowT (expM x.toNatClampNeg rl (mm1 nt rl f) (2 ^ rl)) (10 ^ rl) wh else -1) else -1))) [(m0, .inr (5, [.ref ma, .int (nI nt), .int (nI pp), .int (255), .ref mp, .int (rn), .int (ro), .int (to), .int (wt), .int (hn), .int (ho), .ref mt, .int (nI tl), .int (fa), .int (bk), .int (ba), .int (spt), .int (hre), .int (tok), .int (val), .ref mc, .ref ml, .ref mn, .int (nI se), .ref mk, .ref mg, .ref mh, .ref mq, .int (tn)])), (ma, .inl (E.2.1 1, 172, .inl (f)))]) := by
  refine Ct.of (own := RX5) (nm := "none") (lv := [(0, .ref m0), (1, .int (x)), (2, .int (wh))]) (by decide) rfl rfl (Nat.le_of_ble_eq_true rfl) rfl ?_
  refine v_iload_n (pc := 0) 1 dX5_none_0 rfl rfl ?_
  refine v_i2l (pc := 1) dX5_none_1 ?_
  refine v_lconst (pc := 2) (v := 0) dX5_none_2 (by decide) ?_
  refine v_ldc2 (pc := 3) dX5_none_3 tb_1132 ?_
  refine v_callS (pc := 6) (rest := []) [] lk_880 (c_X5_in l E (Int32.toInt64 (x)) 0 10) dX5_none_6 rfl rfl (Nat.le_of_ble_eq_true rfl) (by decide) (by decide) rfl (Rt.len rfl) (Rt.go ?_)
  refine v_w (ws' := [(m0, .inr (5, [.ref ma, .int (nI nt), .int (nI pp), .int (255), .ref mp, .int (rn), .int (ro), .int (to), .int (wt), .int (hn), .int (ho), .ref mt, .int (nI tl), .int (fa), .int (bk), .int (ba), .int (spt), .int (hre), .int (tok), .int (val), .ref mc, .ref ml, .ref mn, .int (nI se), .ref mk, .ref mg, .ref mh, .ref mq, .int (tn)])), (ma, .inl (E.2.1 1, 172, .inl (f)))]) rfl ?_
  refine v_st (st' := [.int (if ¬ (Int32.toInt64 (x)) < 0 ∧ ¬ 10 < (Int32.toInt64 (x)) then 1 else 0)]) rfl ?_
  refine v_st (st' := [.int (if ¬ x < 0 ∧ ¬ 10 < x then 1 else 0)]) (ite_st (inK (a := 0) (b := 10)) _) ?_
  refine v_ifB_eq (pc := 9) 33 dX5_none_9 (by decide) (fun c_9 => ?_) (fun c_9 => ?_)
  · skip
    refine v_ldc2 (pc := 33) dX5_none_33 tb_1140 ?_
    refine v_lret (pc := 36) dX5_none_36 rfl ⟨rfl, rfl⟩ (Rt.l2 ?_ ?_)
    · skip
      rw [if_neg c_9]
    · skip
      rfl
  · skip
    refine v_iload_n (pc := 12) 2 dX5_none_12 rfl rfl ?_
    refine v_i2l (pc := 13) dX5_none_13 ?_
    refine v_lconst (pc := 14) (v := 0) dX5_none_14 (by decide) ?_
    refine v_lconst (pc := 15) (v := 1) dX5_none_15 (by decide) ?_
    refine v_callS (pc := 16) (rest := []) [] lk_880 (c_X5_in l E (Int32.toInt64 (wh)) 0 1) dX5_none_16 rfl rfl (Nat.le_of_ble_eq_true rfl) (by decide) (by decide) rfl (Rt.len rfl) (Rt.go ?_)
    refine v_w (ws' := [(m0, .inr (5, [.ref ma, .int (nI nt), .int (nI pp), .int (255), .ref mp, .int (rn), .int (ro), .int (to), .int (wt), .int (hn), .int (ho), .ref mt, .int (nI tl), .int (fa), .int (bk), .int (ba), .int (spt), .int (hre), .int (tok), .int (val), .ref mc, .ref ml, .ref mn, .int (nI se), .ref mk, .ref mg, .ref mh, .ref mq, .int (tn)])), (ma, .inl (E.2.1 1, 172, .inl (f)))]) rfl ?_
    refine v_st (st' := [.int (if ¬ (Int32.toInt64 (wh)) < 0 ∧ ¬ 1 < (Int32.toInt64 (wh)) then 1 else 0)]) rfl ?_
    refine v_st (st' := [.int (if ¬ wh < 0 ∧ ¬ 1 < wh then 1 else 0)]) (ite_st (inK (a := 0) (b := 1)) _) ?_
    refine v_ifB_eq (pc := 19) 33 dX5_none_19 (by decide) (fun c_19 => ?_) (fun c_19 => ?_)
    · skip
      refine v_ldc2 (pc := 33) dX5_none_33 tb_1140 ?_
      refine v_lret (pc := 36) dX5_none_36 rfl ⟨rfl, rfl⟩ (Rt.l2 ?_ ?_)
      · skip
        rw [if_pos c_9, if_neg c_19]
      · skip
        rfl
    · skip
      obtain ⟨v, hv, rfl⟩ := le_ex (b := 10) c_9.1 c_9.2 (by decide)
      have hvc : (nI v).toNatClampNeg = v := nI_clamp (by omega)
      refine v_aload_n (pc := 22) 0 dX5_none_22 rfl rfl ?_
      refine v_iload_n (pc := 23) 1 dX5_none_23 rfl rfl ?_
      refine v_iconst (pc := 24) (v := 0) dX5_none_24 (by decide) ?_
      refine v_iconst (pc := 25) (v := 1) dX5_none_25 (by decide) ?_
      refine v_iload_n (pc := 26) 2 dX5_none_26 rfl rfl ?_
      refine v_callV (pc := 27) (rest := []) [0, 1] 0 lk_1133 (c1_X5_meanOf l E m0 ma mp mt mc ml mn mk mg mh mq nt pp rl tl se 255 rn ro to wt hn ho fa bk ba spt hre tok val tn f v wh (by first | assumption | omega) (by first | assumption | omega) (by first | assumption | omega) (by first | assumption | omega)) dX5_none_27 rfl rfl (Nat.le_of_ble_eq_true rfl) (by decide) rfl rfl rfl (by decide) rfl (Rt.len rfl) (Rt.go ?_)
      refine v_w (ws' := [(m0, .inr (5, [.ref ma, .int (nI nt), .int (nI pp), .int (255), .ref mp, .int (rn), .int (ro), .int (to), .int (wt), .int (hn), .int (ho), .ref mt, .int (nI tl), .int (fa), .int (bk), .int (ba), .int (spt), .int (hre), .int (tok), .int (val), .ref mc, .ref ml, .ref mn, .int (nI se), .ref mk, .ref mg, .ref mh, .ref mq, .int (tn)])), (ma, .inl (E.2.1 1, 172, .inl (f)))]) rfl ?_
      refine v_st (st' := [.long (lowT (expM v rl (mm1 nt rl f) (2 ^ rl)) (10 ^ rl) wh)]) rfl ?_
      refine v_goto (pc := 30) 36 dX5_none_30 (by decide) ?_
      refine v_lret (pc := 36) dX5_none_36 rfl ⟨rfl, rfl⟩ (Rt.l2 ?_ ?_)
      · skip
        rw [if_pos c_9, if_pos c_19, hvc]
      · skip
        rfl
theorem c_X5_mean (l : Launch) (E : VE) (m0 : Nat) (ma : Nat) (mp : Nat) (mt : Nat) (mc : Nat) (ml : Nat) (mn : Nat) (mk : Nat) (mg : Nat) (mh : Nat) (mq : Nat) (nt : Nat) (pp : Nat) (rl : Nat) (tl : Nat) (se : Nat) (rn : Int32) (ro : Int32) (to : Int32) (wt : Int32) (hn : Int32) (ho : Int32) (fa : Int32) (bk : Int32) (ba : Int32) (spt : Int32) (hre : Int32) (tok : Int32) (val : Int32) (tn : Int32) (f : Nat → Int32) (x : Int32) (wh : Int32) (h_rl : rl ≤ 8) (h_38 : f 38 = nI rl) (h_nt : nt ≤ 6) : Ct l E yX5_mean cX5_mean 3 (Option.some FieldType.long) 5 122 0 0 [.ref m0, .int (x), .int (wh)] [(m0, .inr (5, [.ref ma, .int (nI nt), .int (nI pp), .int (255), .ref mp, .int (rn), .int (ro), .int (to), .int (wt), .int (hn), .int (ho), .ref mt, .int (nI tl), .int (fa), .int (bk), .int (ba), .int (spt), .int (hre), .int (tok), .int (val), .ref mc, .ref ml, .ref mn, .int (nI se), .ref mk, .ref mg, .ref mh, .ref mq, .int (tn)])), (ma, .inl (E.2.1 1, 172, .inl (f)))] (Rt (some (.long (if ¬ x < 0 ∧ ¬ 10 < x then (if ¬ wh < 0 ∧ ¬ 1 < wh then lowT (expM x.toNatClampNeg rl (mm2 nt rl f) (2 ^ rl)) (10 ^ rl) wh else -1) else -1))) [(m0, .inr (5, [.ref ma, .int (nI nt), .int (nI pp), .int (255), .ref mp, .int (rn), .int (ro), .int (to), .int (wt), .int (hn), .int (ho), .ref mt, .int (nI tl), .int (fa), .int (bk), .int (ba), .int (spt), .int (hre), .int (tok), .int (val), .ref mc, .ref ml, .ref mn, .int (nI se), .ref mk, .ref mg, .ref mh, .ref mq, .int (tn)])), (ma, .inl (E.2.1 1, 172, .inl (f)))]) := by
  refine Ct.of (own := RX5) (nm := "mean") (lv := [(0, .ref m0), (1, .int (x)), (2, .int (wh))]) (by decide) rfl rfl (Nat.le_of_ble_eq_true rfl) rfl ?_
  refine v_iload_n (pc := 0) 1 dX5_mean_0 rfl rfl ?_
  refine v_i2l (pc := 1) dX5_mean_1 ?_
  refine v_lconst (pc := 2) (v := 0) dX5_mean_2 (by decide) ?_
  refine v_ldc2 (pc := 3) dX5_mean_3 tb_1132 ?_
  refine v_callS (pc := 6) (rest := []) [] lk_880 (c_X5_in l E (Int32.toInt64 (x)) 0 10) dX5_mean_6 rfl rfl (Nat.le_of_ble_eq_true rfl) (by decide) (by decide) rfl (Rt.len rfl) (Rt.go ?_)
  refine v_w (ws' := [(m0, .inr (5, [.ref ma, .int (nI nt), .int (nI pp), .int (255), .ref mp, .int (rn), .int (ro), .int (to), .int (wt), .int (hn), .int (ho), .ref mt, .int (nI tl), .int (fa), .int (bk), .int (ba), .int (spt), .int (hre), .int (tok), .int (val), .ref mc, .ref ml, .ref mn, .int (nI se), .ref mk, .ref mg, .ref mh, .ref mq, .int (tn)])), (ma, .inl (E.2.1 1, 172, .inl (f)))]) rfl ?_
  refine v_st (st' := [.int (if ¬ (Int32.toInt64 (x)) < 0 ∧ ¬ 10 < (Int32.toInt64 (x)) then 1 else 0)]) rfl ?_
  refine v_st (st' := [.int (if ¬ x < 0 ∧ ¬ 10 < x then 1 else 0)]) (ite_st (inK (a := 0) (b := 10)) _) ?_
  refine v_ifB_eq (pc := 9) 33 dX5_mean_9 (by decide) (fun c_9 => ?_) (fun c_9 => ?_)
  · skip
    refine v_ldc2 (pc := 33) dX5_mean_33 tb_1140 ?_
    refine v_lret (pc := 36) dX5_mean_36 rfl ⟨rfl, rfl⟩ (Rt.l2 ?_ ?_)
    · skip
      rw [if_neg c_9]
    · skip
      rfl
  · skip
    refine v_iload_n (pc := 12) 2 dX5_mean_12 rfl rfl ?_
    refine v_i2l (pc := 13) dX5_mean_13 ?_
    refine v_lconst (pc := 14) (v := 0) dX5_mean_14 (by decide) ?_
    refine v_lconst (pc := 15) (v := 1) dX5_mean_15 (by decide) ?_
    refine v_callS (pc := 16) (rest := []) [] lk_880 (c_X5_in l E (Int32.toInt64 (wh)) 0 1) dX5_mean_16 rfl rfl (Nat.le_of_ble_eq_true rfl) (by decide) (by decide) rfl (Rt.len rfl) (Rt.go ?_)
    refine v_w (ws' := [(m0, .inr (5, [.ref ma, .int (nI nt), .int (nI pp), .int (255), .ref mp, .int (rn), .int (ro), .int (to), .int (wt), .int (hn), .int (ho), .ref mt, .int (nI tl), .int (fa), .int (bk), .int (ba), .int (spt), .int (hre), .int (tok), .int (val), .ref mc, .ref ml, .ref mn, .int (nI se), .ref mk, .ref mg, .ref mh, .ref mq, .int (tn)])), (ma, .inl (E.2.1 1, 172, .inl (f)))]) rfl ?_
    refine v_st (st' := [.int (if ¬ (Int32.toInt64 (wh)) < 0 ∧ ¬ 1 < (Int32.toInt64 (wh)) then 1 else 0)]) rfl ?_
    refine v_st (st' := [.int (if ¬ wh < 0 ∧ ¬ 1 < wh then 1 else 0)]) (ite_st (inK (a := 0) (b := 1)) _) ?_
    refine v_ifB_eq (pc := 19) 33 dX5_mean_19 (by decide) (fun c_19 => ?_) (fun c_19 => ?_)
    · skip
      refine v_ldc2 (pc := 33) dX5_mean_33 tb_1140 ?_
      refine v_lret (pc := 36) dX5_mean_36 rfl ⟨rfl, rfl⟩ (Rt.l2 ?_ ?_)
      · skip
        rw [if_pos c_9, if_neg c_19]
      · skip
        rfl
    · skip
      obtain ⟨v, hv, rfl⟩ := le_ex (b := 10) c_9.1 c_9.2 (by decide)
      have hvc : (nI v).toNatClampNeg = v := nI_clamp (by omega)
      refine v_aload_n (pc := 22) 0 dX5_mean_22 rfl rfl ?_
      refine v_iload_n (pc := 23) 1 dX5_mean_23 rfl rfl ?_
      refine v_iconst (pc := 24) (v := 0) dX5_mean_24 (by decide) ?_
      refine v_iconst (pc := 25) (v := 2) dX5_mean_25 (by decide) ?_
      refine v_iload_n (pc := 26) 2 dX5_mean_26 rfl rfl ?_
      refine v_callV (pc := 27) (rest := []) [0, 1] 0 lk_1133 (c2_X5_meanOf l E m0 ma mp mt mc ml mn mk mg mh mq nt pp rl tl se 255 rn ro to wt hn ho fa bk ba spt hre tok val tn f v wh (by first | assumption | omega) (by first | assumption | omega) (by first | assumption | omega) (by first | assumption | omega)) dX5_mean_27 rfl rfl (Nat.le_of_ble_eq_true rfl) (by decide) rfl rfl rfl (by decide) rfl (Rt.len rfl) (Rt.go ?_)
      refine v_w (ws' := [(m0, .inr (5, [.ref ma, .int (nI nt), .int (nI pp), .int (255), .ref mp, .int (rn), .int (ro), .int (to), .int (wt), .int (hn), .int (ho), .ref mt, .int (nI tl), .int (fa), .int (bk), .int (ba), .int (spt), .int (hre), .int (tok), .int (val), .ref mc, .ref ml, .ref mn, .int (nI se), .ref mk, .ref mg, .ref mh, .ref mq, .int (tn)])), (ma, .inl (E.2.1 1, 172, .inl (f)))]) rfl ?_
      refine v_st (st' := [.long (lowT (expM v rl (mm2 nt rl f) (2 ^ rl)) (10 ^ rl) wh)]) rfl ?_
      refine v_goto (pc := 30) 36 dX5_mean_30 (by decide) ?_
      refine v_lret (pc := 36) dX5_mean_36 rfl ⟨rfl, rfl⟩ (Rt.l2 ?_ ?_)
      · skip
        rw [if_pos c_9, if_pos c_19, hvc]
      · skip
        rfl
theorem c_X5_see (l : Launch) (E : VE) (m0 : Nat) (ma : Nat) (mp : Nat) (mt : Nat) (mc : Nat) (ml : Nat) (mn : Nat) (mk : Nat) (mg : Nat) (mh : Nat) (mq : Nat) (nt : Nat) (pp : Nat) (tl : Nat) (se : Nat) (th : Int32) (rn : Int32) (ro : Int32) (to : Int32) (wt : Int32) (hn : Int32) (ho : Int32) (fa : Int32) (bk : Int32) (ba : Int32) (spt : Int32) (hre : Int32) (tok : Int32) (val : Int32) (tn : Int32) (sq : Nat → Int32) (n : Int32) (P : Prop) (dP : Decidable P) (h_nt : nt ≤ 6) (h_se : se ≤ 8) : Ct l E yX5_see cX5_see 3 (Option.some FieldType.int) 2 46 0 0 [.ref m0, .int (n), .int (if P then 1 else 0)] [(m0, .inr (5, [.ref ma, .int (nI nt), .int (nI pp), .int (th), .ref mp, .int (rn), .int (ro), .int (to), .int (wt), .int (hn), .int (ho), .ref mt, .int (nI tl), .int (fa), .int (bk), .int (ba), .int (spt), .int (hre), .int (tok), .int (val), .ref mc, .ref ml, .ref mn, .int (nI se), .ref mk, .ref mg, .ref mh, .ref mq, .int (tn)])), (mn, .inl (E.2.1 1, 16, .inl (sq)))] (Rt (some (.int (if okN n nt then (if se = 8 then -3 else nI (se + 1)) else -1))) [(m0, .inr (5, [.ref ma, .int (nI nt), .int (nI pp), .int (th), .ref mp, .int (rn), .int (ro), .int (to), .int (wt), .int (hn), .int (ho), .ref mt, .int (nI tl), .int (fa), .int (bk), .int (ba), .int (spt), .int (hre), .int (tok), .int (val), .ref mc, .ref ml, .ref mn, .int (if okN n nt then (if se = 8 then nI se else nI (se + 1)) else nI se), .ref mk, .ref mg, .ref mh, .ref mq, .int (tn)])), (mn, .inl (E.2.1 1, 16, .inl (if okN n nt then (if se = 8 then sq else upd (upd sq (2 * se) n) (2 * se + 1) (if P then 1 else 0)) else sq)))]) := by
  refine Ct.of (own := RX5) (nm := "see") (lv := [(0, .ref m0), (1, .int (n)), (2, .int (if P then 1 else 0))]) (by decide) rfl rfl (Nat.le_of_ble_eq_true rfl) rfl ?_
  refine v_aload_n (pc := 0) 0 dX5_see_0 rfl rfl ?_
  refine v_iload_n (pc := 1) 1 dX5_see_1 rfl rfl ?_
  refine v_callV (pc := 2) (rest := []) [0] 0 lk_966 (c_X5_isNote l E m0 ma mp mt mc ml mn mk mg mh mq nt pp tl se th rn ro to wt hn ho fa bk ba spt hre tok val tn n (by first | assumption | omega)) dX5_see_2 rfl rfl (Nat.le_of_ble_eq_true rfl) (by decide) rfl rfl rfl (by decide) rfl (Rt.len rfl) (Rt.go ?_)
  refine v_w (ws' := [(m0, .inr (5, [.ref ma, .int (nI nt), .int (nI pp), .int (th), .ref mp, .int (rn), .int (ro), .int (to), .int (wt), .int (hn), .int (ho), .ref mt, .int (nI tl), .int (fa), .int (bk), .int (ba), .int (spt), .int (hre), .int (tok), .int (val), .ref mc, .ref ml, .ref mn, .int (nI se), .ref mk, .ref mg, .ref mh, .ref mq, .int (tn)])), (mn, .inl (E.2.1 1, 16, .inl (sq)))]) rfl ?_
  refine v_st (st' := [.int (if okN n nt then 1 else 0)]) rfl ?_
  refine v_ifB_ne (pc := 5) 10 dX5_see_5 (by decide) (fun c_5 => ?_) (fun c_5 => ?_)
  · skip
    refine v_aload_n (pc := 10) 0 dX5_see_10 rfl rfl ?_
    refine gf_810 (pc := 11) 0 dX5_see_11 rfl rfl ?_
    refine v_bipush (pc := 14) (v := 8) dX5_see_14 (by decide) ?_
    refine v_cmpN_ne (pc := 16) (a := se) (b := 8) 22 dX5_see_16 (by decide) (by omega) (by omega) (fun c_16 => ?_) (fun c_16 => ?_)
    · skip
      refine v_aload_n (pc := 22) 0 dX5_see_22 rfl rfl ?_
      refine gf_809 (pc := 23) 0 dX5_see_23 rfl rfl ?_
      refine v_iconst (pc := 26) (v := 2) dX5_see_26 (by decide) ?_
      refine v_aload_n (pc := 27) 0 dX5_see_27 rfl rfl ?_
      refine gf_810 (pc := 28) 0 dX5_see_28 rfl rfl ?_
      refine v_imul (pc := 31) dX5_see_31 ?_
      refine v_st (st' := [.int (nI (2 * se)), .ref mn]) (congrArg (fun z => Value.int z :: _) (pk_mul 2 se)) ?_
      refine v_iload_n (pc := 32) 1 dX5_see_32 rfl rfl ?_
      refine v_iastN (pc := 33) (ws' := [(m0, .inr (5, [.ref ma, .int (nI nt), .int (nI pp), .int (th), .ref mp, .int (rn), .int (ro), .int (to), .int (wt), .int (hn), .int (ho), .ref mt, .int (nI tl), .int (fa), .int (bk), .int (ba), .int (spt), .int (hre), .int (tok), .int (val), .ref mc, .ref ml, .ref mn, .int (nI se), .ref mk, .ref mg, .ref mh, .ref mq, .int (tn)])), (mn, .inl (E.2.1 1, 16, .inl (upd (sq) (2 * se) (n))))]) 1 1 (2 * se) dX5_see_33 rfl rfl rfl (by omega) (by decide) rfl ?_
      refine v_aload_n (pc := 34) 0 dX5_see_34 rfl rfl ?_
      refine gf_809 (pc := 35) 0 dX5_see_35 rfl rfl ?_
      refine v_iconst (pc := 38) (v := 2) dX5_see_38 (by decide) ?_
      refine v_aload_n (pc := 39) 0 dX5_see_39 rfl rfl ?_
      refine gf_810 (pc := 40) 0 dX5_see_40 rfl rfl ?_
      refine v_imul (pc := 43) dX5_see_43 ?_
      refine v_st (st' := [.int (nI (2 * se)), .ref mn]) (congrArg (fun z => Value.int z :: _) (pk_mul 2 se)) ?_
      refine v_iconst (pc := 44) (v := 1) dX5_see_44 (by decide) ?_
      refine v_iadd (pc := 45) dX5_see_45 ?_
      refine v_st (st' := [.int (nI (2 * se + 1)), .ref mn]) (congrArg (fun z => Value.int z :: _) (nI_add (2 * se) 1)) ?_
      refine v_iload_n (pc := 46) 2 dX5_see_46 rfl rfl ?_
      suffices J_47 : V l E RX5 cX5_see 3 (Option.some FieldType.int) "see" ({ frames := 2, cells := 0, slots := 0, locals := 46 }) [(m0, .inr (5, [.ref ma, .int (nI nt), .int (nI pp), .int (th), .ref mp, .int (rn), .int (ro), .int (to), .int (wt), .int (hn), .int (ho), .ref mt, .int (nI tl), .int (fa), .int (bk), .int (ba), .int (spt), .int (hre), .int (tok), .int (val), .ref mc, .ref ml, .ref mn, .int (nI se), .ref mk, .ref mg, .ref mh, .ref mq, .int (tn)])), (mn, .inl (E.2.1 1, 16, .inl (sq)))] 0 0 (Rt (some (.int (if okN n nt then (if se = 8 then -3 else nI (se + 1)) else -1))) [(m0, .inr (5, [.ref ma, .int (nI nt), .int (nI pp), .int (th), .ref mp, .int (rn), .int (ro), .int (to), .int (wt), .int (hn), .int (ho), .ref mt, .int (nI tl), .int (fa), .int (bk), .int (ba), .int (spt), .int (hre), .int (tok), .int (val), .ref mc, .ref ml, .ref mn, .int (if okN n nt then (if se = 8 then nI se else nI (se + 1)) else nI se), .ref mk, .ref mg, .ref mh, .ref mq, .int (tn)])), (mn, .inl (E.2.1 1, 16, .inl (if okN n nt then (if se = 8 then sq else upd (upd sq (2 * se) n) (2 * se + 1) (if P then 1 else 0)) else sq)))]) 0 0 55 [(0, .ref m0), (1, .int (n)), (2, .int (if P then 1 else 0))] [.int (if P then 1 else 0), .int (nI (2 * se + 1)), .ref mn] [(m0, .inr (5, [.ref ma, .int (nI nt), .int (nI pp), .int (th), .ref mp, .int (rn), .int (ro), .int (to), .int (wt), .int (hn), .int (ho), .ref mt, .int (nI tl), .int (fa), .int (bk), .int (ba), .int (spt), .int (hre), .int (tok), .int (val), .ref mc, .ref ml, .ref mn, .int (nI se), .ref mk, .ref mg, .ref mh, .ref mq, .int (tn)])), (mn, .inl (E.2.1 1, 16, .inl (upd (sq) (2 * se) (n))))] by
        refine v_ifB_eq (pc := 47) 54 dX5_see_47 (by decide) (fun c_47 => ?_) (fun c_47 => ?_)
        · skip
          refine v_iconst (pc := 54) (v := 0) dX5_see_54 (by decide) ?_
          refine v_st ?_ J_47
          rw [if_neg (show ¬ P from c_47)]
        · skip
          refine v_iconst (pc := 50) (v := 1) dX5_see_50 (by decide) ?_
          refine v_goto (pc := 51) 55 dX5_see_51 (by decide) ?_
          refine v_st ?_ J_47
          rw [if_pos (show P from c_47)]
      refine v_st (st' := [.int (if P then 1 else 0), .int (nI (2 * se + 1)), .ref mn]) (by by_cases q : P <;> simp [q]) ?_
      refine v_iastN (pc := 55) (ws' := [(m0, .inr (5, [.ref ma, .int (nI nt), .int (nI pp), .int (th), .ref mp, .int (rn), .int (ro), .int (to), .int (wt), .int (hn), .int (ho), .ref mt, .int (nI tl), .int (fa), .int (bk), .int (ba), .int (spt), .int (hre), .int (tok), .int (val), .ref mc, .ref ml, .ref mn, .int (nI se), .ref mk, .ref mg, .ref mh, .ref mq, .int (tn)])), (mn, .inl (E.2.1 1, 16, .inl (upd (upd (sq) (2 * se) (n)) (2 * se + 1) (if P then 1 else 0))))]) 1 1 (2 * se + 1) dX5_see_55 rfl rfl rfl (by omega) (by decide) rfl ?_
      refine v_aload_n (pc := 56) 0 dX5_see_56 rfl rfl ?_
      refine v_dup (pc := 57) dX5_see_57 rfl ?_
      refine gf_810 (pc := 58) 0 dX5_see_58 rfl rfl ?_
      refine v_iconst (pc := 61) (v := 1) dX5_see_61 (by decide) ?_
      refine v_iadd (pc := 62) dX5_see_62 ?_
      refine pf_810 (pc := 63) (ws' := [(m0, .inr (5, [.ref ma, .int (nI nt), .int (nI pp), .int (th), .ref mp, .int (rn), .int (ro), .int (to), .int (wt), .int (hn), .int (ho), .ref mt, .int (nI tl), .int (fa), .int (bk), .int (ba), .int (spt), .int (hre), .int (tok), .int (val), .ref mc, .ref ml, .ref mn, .int ((nI se) + (1)), .ref mk, .ref mg, .ref mh, .ref mq, .int (tn)])), (mn, .inl (E.2.1 1, 16, .inl (upd (upd (sq) (2 * se) (n)) (2 * se + 1) (if P then 1 else 0))))]) 0 dX5_see_63 rfl rfl rfl (Nat.le_of_ble_eq_true rfl) rfl ?_
      refine v_aload_n (pc := 66) 0 dX5_see_66 rfl rfl ?_
      refine gf_810 (pc := 67) 0 dX5_see_67 rfl rfl ?_
      refine v_iret (pc := 70) dX5_see_70 rfl ⟨rfl, rfl⟩ (Rt.i2 ?_ ?_)
      · skip
        rw [if_pos c_5, if_neg c_16, nI_1]
      · skip
        simp only [if_pos c_5, if_neg c_16, nI_1]
    · skip
      refine v_bipush (pc := 19) (v := -3) dX5_see_19 (by decide) ?_
      refine v_iret (pc := 21) dX5_see_21 rfl ⟨rfl, rfl⟩ (Rt.i2 ?_ ?_)
      · skip
        rw [if_pos c_5, if_pos c_16]
      · skip
        simp only [if_pos c_5, if_pos c_16]
  · skip
    refine v_iconst (pc := 8) (v := -1) dX5_see_8 (by decide) ?_
    refine v_iret (pc := 9) dX5_see_9 rfl ⟨rfl, rfl⟩ (Rt.i2 ?_ ?_)
    · skip
      rw [if_neg c_5]
    · skip
      simp only [if_neg c_5]
theorem c_X5_forget (l : Launch) (E : VE) (m0 : Nat) (ma : Nat) (mp : Nat) (mt : Nat) (mc : Nat) (ml : Nat) (mn : Nat) (mk : Nat) (mg : Nat) (mh : Nat) (mq : Nat) (nt : Nat) (pp : Nat) (tl : Nat) (se : Nat) (th : Int32) (rn : Int32) (ro : Int32) (to : Int32) (wt : Int32) (hn : Int32) (ho : Int32) (fa : Int32) (bk : Int32) (ba : Int32) (spt : Int32) (hre : Int32) (tok : Int32) (val : Int32) (tn : Int32) (n : Int32) : Ct l E yX5_forget cX5_forget 3 (Option.some FieldType.int) 1 25 0 0 [.ref m0, .int (n)] [(m0, .inr (5, [.ref ma, .int (nI nt), .int (nI pp), .int (th), .ref mp, .int (rn), .int (ro), .int (to), .int (wt), .int (hn), .int (ho), .ref mt, .int (nI tl), .int (fa), .int (bk), .int (ba), .int (spt), .int (hre), .int (tok), .int (val), .ref mc, .ref ml, .ref mn, .int (nI se), .ref mk, .ref mg, .ref mh, .ref mq, .int (tn)]))] (Rt (some (.int (if ¬ n < 0 ∧ ¬ nI se < n then nI se else -1))) [(m0, .inr (5, [.ref ma, .int (nI nt), .int (nI pp), .int (th), .ref mp, .int (rn), .int (ro), .int (to), .int (wt), .int (hn), .int (ho), .ref mt, .int (nI tl), .int (fa), .int (bk), .int (ba), .int (spt), .int (hre), .int (tok), .int (val), .ref mc, .ref ml, .ref mn, .int (if ¬ n < 0 ∧ ¬ nI se < n then n else nI se), .ref mk, .ref mg, .ref mh, .ref mq, .int (tn)]))]) := by
  refine Ct.of (own := RX5) (nm := "forget") (lv := [(0, .ref m0), (1, .int (n))]) (by decide) rfl rfl (Nat.le_of_ble_eq_true rfl) rfl ?_
  refine v_iload_n (pc := 0) 1 dX5_forget_0 rfl rfl ?_
  refine v_i2l (pc := 1) dX5_forget_1 ?_
  refine v_lconst (pc := 2) (v := 0) dX5_forget_2 (by decide) ?_
  refine v_aload_n (pc := 3) 0 dX5_forget_3 rfl rfl ?_
  refine gf_810 (pc := 4) 0 dX5_forget_4 rfl rfl ?_
  refine v_i2l (pc := 7) dX5_forget_7 ?_
  refine v_callS (pc := 8) (rest := []) [] lk_880 (c_X5_in l E (Int32.toInt64 (n)) 0 (Int32.toInt64 (nI se))) dX5_forget_8 rfl rfl (Nat.le_of_ble_eq_true rfl) (by decide) (by decide) rfl (Rt.len rfl) (Rt.go ?_)
  refine v_w (ws' := [(m0, .inr (5, [.ref ma, .int (nI nt), .int (nI pp), .int (th), .ref mp, .int (rn), .int (ro), .int (to), .int (wt), .int (hn), .int (ho), .ref mt, .int (nI tl), .int (fa), .int (bk), .int (ba), .int (spt), .int (hre), .int (tok), .int (val), .ref mc, .ref ml, .ref mn, .int (nI se), .ref mk, .ref mg, .ref mh, .ref mq, .int (tn)]))]) rfl ?_
  refine v_st (st' := [.int (if ¬ (Int32.toInt64 (n)) < 0 ∧ ¬ (Int32.toInt64 (nI se)) < (Int32.toInt64 (n)) then 1 else 0)]) rfl ?_
  refine v_st (st' := [.int (if ¬ n < 0 ∧ ¬ nI se < n then 1 else 0)]) (ite_st (inK (a := 0) (b := nI se)) _) ?_
  refine v_ifB_ne (pc := 11) 16 dX5_forget_11 (by decide) (fun c_11 => ?_) (fun c_11 => ?_)
  · skip
    refine v_aload_n (pc := 16) 0 dX5_forget_16 rfl rfl ?_
    refine gf_810 (pc := 17) 0 dX5_forget_17 rfl rfl ?_
    refine v_istore_n (pc := 20) (lv' := [(2, .int (nI se)), (0, .ref m0), (1, .int (n))]) dX5_forget_20 rfl (by decide) rfl ?_
    refine v_aload_n (pc := 21) 1 dX5_forget_21 rfl rfl ?_
    refine v_iload_n (pc := 22) 2 dX5_forget_22 rfl rfl ?_
    refine pf_810 (pc := 23) (ws' := [(m0, .inr (5, [.ref ma, .int (nI nt), .int (nI pp), .int (th), .ref mp, .int (rn), .int (ro), .int (to), .int (wt), .int (hn), .int (ho), .ref mt, .int (nI tl), .int (fa), .int (bk), .int (ba), .int (spt), .int (hre), .int (tok), .int (val), .ref mc, .ref ml, .ref mn, .int (n), .ref mk, .ref mg, .ref mh, .ref mq, .int (tn)]))]) 0 dX5_forget_23 rfl rfl rfl (Nat.le_of_ble_eq_true rfl) rfl ?_
    refine v_iload_n (pc := 26) 0 dX5_forget_26 rfl rfl ?_
    refine v_iret (pc := 27) dX5_forget_27 rfl ⟨rfl, rfl⟩ (Rt.i2 ?_ ?_)
    · skip
      first | simp only [if_pos c_11] | rfl
    · skip
      first | simp only [if_pos c_11] | rfl
  · skip
    refine v_iconst (pc := 14) (v := -1) dX5_forget_14 (by decide) ?_
    refine v_iret (pc := 15) dX5_forget_15 rfl ⟨rfl, rfl⟩ (Rt.i2 ?_ ?_)
    · skip
      first | simp only [if_neg c_11] | rfl
    · skip
      first | simp only [if_neg c_11] | rfl
theorem c_X5_isFit (l : Launch) (E : VE) (m0 : Nat) (ma : Nat) (mp : Nat) (mt : Nat) (mc : Nat) (ml : Nat) (mn : Nat) (mk : Nat) (mg : Nat) (mh : Nat) (mq : Nat) (nt : Nat) (pp : Nat) (rl : Nat) (tl : Nat) (se : Nat) (th : Int32) (rn : Int32) (ro : Int32) (to : Int32) (wt : Int32) (hn : Int32) (ho : Int32) (fa : Int32) (bk : Int32) (ba : Int32) (spt : Int32) (hre : Int32) (tok : Int32) (val : Int32) (tn : Int32) (f : Nat → Int32) (sq : Nat → Int32) (x : Int32) (h_rl : rl ≤ 8) (h_38 : f 38 = nI rl) (h_se : se ≤ 8) : Ct l E yX5_isFit cX5_isFit 4 (Option.some FieldType.boolean) 3 68 0 0 [.ref m0, .int (x)] [(m0, .inr (5, [.ref ma, .int (nI nt), .int (nI pp), .int (th), .ref mp, .int (rn), .int (ro), .int (to), .int (wt), .int (hn), .int (ho), .ref mt, .int (nI tl), .int (fa), .int (bk), .int (ba), .int (spt), .int (hre), .int (tok), .int (val), .ref mc, .ref ml, .ref mn, .int (nI se), .ref mk, .ref mg, .ref mh, .ref mq, .int (tn)])), (ma, .inl (E.2.1 1, 172, .inl (f))), (mn, .inl (E.2.1 1, 16, .inl (sq)))] (Rt (some (.int (if ftM sq x (decide (outM rl th f x = x)) se = true then 1 else 0))) [(m0, .inr (5, [.ref ma, .int (nI nt), .int (nI pp), .int (th), .ref mp, .int (rn), .int (ro), .int (to), .int (wt), .int (hn), .int (ho), .ref mt, .int (nI tl), .int (fa), .int (bk), .int (ba), .int (spt), .int (hre), .int (tok), .int (val), .ref mc, .ref ml, .ref mn, .int (nI se), .ref mk, .ref mg, .ref mh, .ref mq, .int (tn)])), (ma, .inl (E.2.1 1, 172, .inl (f))), (mn, .inl (E.2.1 1, 16, .inl (sq)))]) := by
  refine Ct.of (own := RX5) (nm := "isFit") (lv := [(0, .ref m0), (1, .int (x))]) (by decide) rfl rfl (Nat.le_of_ble_eq_true rfl) rfl ?_
  refine v_aload_n (pc := 0) 0 dX5_isFit_0 rfl rfl ?_
  refine v_iload_n (pc := 1) 1 dX5_isFit_1 rfl rfl ?_
  refine v_callV (pc := 2) (rest := []) [0, 1] 0 lk_1057 (c_X5_agrees l E m0 ma mp mt mc ml mn mk mg mh mq nt pp rl tl se th rn ro to wt hn ho fa bk ba spt hre tok val tn f x (by first | assumption | omega) (by first | assumption | omega)) dX5_isFit_2 rfl rfl (Nat.le_of_ble_eq_true rfl) (by decide) rfl rfl rfl (by decide) rfl (Rt.len rfl) (Rt.go ?_)
  refine v_w (ws' := [(m0, .inr (5, [.ref ma, .int (nI nt), .int (nI pp), .int (th), .ref mp, .int (rn), .int (ro), .int (to), .int (wt), .int (hn), .int (ho), .ref mt, .int (nI tl), .int (fa), .int (bk), .int (ba), .int (spt), .int (hre), .int (tok), .int (val), .ref mc, .ref ml, .ref mn, .int (nI se), .ref mk, .ref mg, .ref mh, .ref mq, .int (tn)])), (ma, .inl (E.2.1 1, 172, .inl (f))), (mn, .inl (E.2.1 1, 16, .inl (sq)))]) rfl ?_
  refine v_st (st' := [.int (if outM rl th f x = x then 1 else 0)]) rfl ?_
  refine v_st (st' := [.int (if decide (outM rl th f x = x) = true then 1 else 0)]) (ite_st decide_eq_true_iff.symm _) ?_
  refine v_istore_n (pc := 5) (lv' := [(2, .int (if decide (outM rl th f x = x) = true then 1 else 0)), (0, .ref m0), (1, .int (x))]) dX5_isFit_5 rfl (by decide) rfl ?_
  refine v_iconst (pc := 6) (v := 0) dX5_isFit_6 (by decide) ?_
  refine v_istore_n (pc := 7) (lv' := [(3, .int (0)), (2, .int (if decide (outM rl th f x = x) = true then 1 else 0)), (0, .ref m0), (1, .int (x))]) dX5_isFit_7 rfl (by decide) rfl ?_
  have loop_8 : ∀ (D_8 : Nat) (i : Nat) (cb : Bool), se - i < D_8 → (i ≤ se) → (cb = ftM sq x (decide (outM rl th f x = x)) i) → V l E RX5 cX5_isFit 4 (Option.some FieldType.boolean) "isFit" ({ frames := 3, cells := 0, slots := 0, locals := 68 }) [(m0, .inr (5, [.ref ma, .int (nI nt), .int (nI pp), .int (th), .ref mp, .int (rn), .int (ro), .int (to), .int (wt), .int (hn), .int (ho), .ref mt, .int (nI tl), .int (fa), .int (bk), .int (ba), .int (spt), .int (hre), .int (tok), .int (val), .ref mc, .ref ml, .ref mn, .int (nI se), .ref mk, .ref mg, .ref mh, .ref mq, .int (tn)])), (ma, .inl (E.2.1 1, 172, .inl (f))), (mn, .inl (E.2.1 1, 16, .inl (sq)))] 0 0 (Rt (some (.int (if ftM sq x (decide (outM rl th f x = x)) se = true then 1 else 0))) [(m0, .inr (5, [.ref ma, .int (nI nt), .int (nI pp), .int (th), .ref mp, .int (rn), .int (ro), .int (to), .int (wt), .int (hn), .int (ho), .ref mt, .int (nI tl), .int (fa), .int (bk), .int (ba), .int (spt), .int (hre), .int (tok), .int (val), .ref mc, .ref ml, .ref mn, .int (nI se), .ref mk, .ref mg, .ref mh, .ref mq, .int (tn)])), (ma, .inl (E.2.1 1, 172, .inl (f))), (mn, .inl (E.2.1 1, 16, .inl (sq)))]) 0 0 8 [(3, .int (nI i)), (2, .int (if cb = true then 1 else 0)), (0, .ref m0), (1, .int (x))] [] [(m0, .inr (5, [.ref ma, .int (nI nt), .int (nI pp), .int (th), .ref mp, .int (rn), .int (ro), .int (to), .int (wt), .int (hn), .int (ho), .ref mt, .int (nI tl), .int (fa), .int (bk), .int (ba), .int (spt), .int (hre), .int (tok), .int (val), .ref mc, .ref ml, .ref mn, .int (nI se), .ref mk, .ref mg, .ref mh, .ref mq, .int (tn)])), (ma, .inl (E.2.1 1, 172, .inl (f))), (mn, .inl (E.2.1 1, 16, .inl (sq)))] := by
    intro D_8
    induction D_8 with
    | zero => intro i cb h; exact absurd h (Nat.not_lt_zero _)
    | succ D_8 ih_8 =>
      intro i cb hmu_8 h_8_0 h_8_1
      refine v_iload_n (pc := 8) 0 dX5_isFit_8 rfl rfl ?_
      refine v_aload_n (pc := 9) 2 dX5_isFit_9 rfl rfl ?_
      refine gf_810 (pc := 10) 0 dX5_isFit_10 rfl rfl ?_
      refine v_cmpN_ge (pc := 13) (a := i) (b := se) 57 dX5_isFit_13 (by decide) (by omega) (by omega) (fun c_13 => ?_) (fun c_13 => ?_)
      · skip
        refine v_iload_n (pc := 57) 1 dX5_isFit_57 rfl rfl ?_
        refine v_zret (pc := 58) dX5_isFit_58 rfl (zn01 _) ⟨rfl, rfl⟩ (Rt.i ?_)
        obtain rfl : i = se := by omega
        rw [h_8_1]
      · skip
        refine v_iload_n (pc := 16) 1 dX5_isFit_16 rfl rfl ?_
        refine v_ifB_eq (pc := 17) 49 dX5_isFit_17 (by decide) (fun c_17 => ?_) (fun c_17 => ?_)
        · skip
          refine v_iconst (pc := 49) (v := 0) dX5_isFit_49 (by decide) ?_
          refine v_istore_n (pc := 50) (lv' := [(2, .int (0)), (3, .int (nI i)), (0, .ref m0), (1, .int (x))]) dX5_isFit_50 rfl (by decide) rfl ?_
          refine v_iinc (pc := 51) (v := nI (i + 1)) (lv' := [(3, .int (nI (i + 1))), (2, .int (0)), (0, .ref m0), (1, .int (x))]) 1 dX5_isFit_51 rfl (nI_inc (i) 1) (by decide) rfl ?_
          refine v_goto (pc := 54) 8 dX5_isFit_54 (by decide) ?_
          refine v_lv (lv' := [(3, .int (nI (i + 1))), (2, .int (if false = true then 1 else 0)), (0, .ref m0), (1, .int (x))]) [0, 1, 2, 3] rfl ?_
          refine ih_8 (i + 1) false (by omega) ?_ ?_
          · omega
          · simp only [ftM]; rw [← h_8_1]; rw [show cb = false from by simpa using c_17]; rfl
        · skip
          refine v_iload_n (pc := 20) 3 dX5_isFit_20 rfl rfl ?_
          refine v_aload_n (pc := 21) 2 dX5_isFit_21 rfl rfl ?_
          refine gf_809 (pc := 22) 0 dX5_isFit_22 rfl rfl ?_
          refine v_iconst (pc := 25) (v := 2) dX5_isFit_25 (by decide) ?_
          refine v_iload_n (pc := 26) 0 dX5_isFit_26 rfl rfl ?_
          refine v_imul (pc := 27) dX5_isFit_27 ?_
          refine v_st (st' := [.int (nI (2 * i)), .ref mn, .int (x)]) (congrArg (fun z => Value.int z :: _) (pk_mul 2 i)) ?_
          refine v_ialdN (pc := 28) 2 1 (2 * i) dX5_isFit_28 rfl rfl rfl (by omega) (by decide) ?_
          refine v_ishr (pc := 29) dX5_isFit_29 ?_
          refine v_iconst (pc := 30) (v := 1) dX5_isFit_30 (by decide) ?_
          refine v_iand (pc := 31) dX5_isFit_31 ?_
          refine v_aload_n (pc := 32) 2 dX5_isFit_32 rfl rfl ?_
          refine gf_809 (pc := 33) 0 dX5_isFit_33 rfl rfl ?_
          refine v_iconst (pc := 36) (v := 2) dX5_isFit_36 (by decide) ?_
          refine v_iload_n (pc := 37) 0 dX5_isFit_37 rfl rfl ?_
          refine v_imul (pc := 38) dX5_isFit_38 ?_
          refine v_st (st' := [.int (nI (2 * i)), .ref mn, .int (((x) >>> ((sq (2 * i)) &&& 31)) &&& (1))]) (congrArg (fun z => Value.int z :: _) (pk_mul 2 i)) ?_
          refine v_iconst (pc := 39) (v := 1) dX5_isFit_39 (by decide) ?_
          refine v_iadd (pc := 40) dX5_isFit_40 ?_
          refine v_st (st' := [.int (nI (2 * i + 1)), .ref mn, .int (((x) >>> ((sq (2 * i)) &&& 31)) &&& (1))]) (congrArg (fun z => Value.int z :: _) (nI_add (2 * i) 1)) ?_
          refine v_ialdN (pc := 41) 2 1 (2 * i + 1) dX5_isFit_41 rfl rfl rfl (by omega) (by decide) ?_
          refine v_icmp_ne (pc := 42) 49 dX5_isFit_42 (by decide) (fun c_42 => ?_) (fun c_42 => ?_)
          · skip
            refine v_iconst (pc := 49) (v := 0) dX5_isFit_49 (by decide) ?_
            refine v_istore_n (pc := 50) (lv' := [(2, .int (0)), (3, .int (nI i)), (0, .ref m0), (1, .int (x))]) dX5_isFit_50 rfl (by decide) rfl ?_
            refine v_iinc (pc := 51) (v := nI (i + 1)) (lv' := [(3, .int (nI (i + 1))), (2, .int (0)), (0, .ref m0), (1, .int (x))]) 1 dX5_isFit_51 rfl (nI_inc (i) 1) (by decide) rfl ?_
            refine v_goto (pc := 54) 8 dX5_isFit_54 (by decide) ?_
            refine v_lv (lv' := [(3, .int (nI (i + 1))), (2, .int (if false = true then 1 else 0)), (0, .ref m0), (1, .int (x))]) [0, 1, 2, 3] rfl ?_
            refine ih_8 (i + 1) false (by omega) ?_ ?_
            · omega
            · simp only [ftM]; rw [← h_8_1]; rw [c_17, Bool.true_and]; exact (decide_eq_false c_42).symm
          · skip
            refine v_iconst (pc := 45) (v := 1) dX5_isFit_45 (by decide) ?_
            refine v_goto (pc := 46) 50 dX5_isFit_46 (by decide) ?_
            refine v_istore_n (pc := 50) (lv' := [(2, .int (1)), (3, .int (nI i)), (0, .ref m0), (1, .int (x))]) dX5_isFit_50 rfl (by decide) rfl ?_
            refine v_iinc (pc := 51) (v := nI (i + 1)) (lv' := [(3, .int (nI (i + 1))), (2, .int (1)), (0, .ref m0), (1, .int (x))]) 1 dX5_isFit_51 rfl (nI_inc (i) 1) (by decide) rfl ?_
            refine v_goto (pc := 54) 8 dX5_isFit_54 (by decide) ?_
            refine v_lv (lv' := [(3, .int (nI (i + 1))), (2, .int (if true = true then 1 else 0)), (0, .ref m0), (1, .int (x))]) [0, 1, 2, 3] rfl ?_
            refine ih_8 (i + 1) true (by omega) ?_ ?_
            · omega
            · simp only [ftM]; rw [← h_8_1]; rw [c_17, Bool.true_and]; exact (decide_eq_true c_42).symm
  refine v_lv (lv' := [(3, .int (nI 0)), (2, .int (if decide (outM rl th f x = x) = true then 1 else 0)), (0, .ref m0), (1, .int (x))]) [0, 1, 2, 3] rfl ?_
  refine loop_8 ((se - 0) + 1) 0 (decide (outM rl th f x = x)) (Nat.lt_succ_self _) ?_ ?_
  · omega
  · rfl
theorem c_X5_fits (l : Launch) (E : VE) (m0 : Nat) (ma : Nat) (mp : Nat) (mt : Nat) (mc : Nat) (ml : Nat) (mn : Nat) (mk : Nat) (mg : Nat) (mh : Nat) (mq : Nat) (nt : Nat) (pp : Nat) (rl : Nat) (tl : Nat) (se : Nat) (th : Int32) (rn : Int32) (ro : Int32) (to : Int32) (wt : Int32) (hn : Int32) (ho : Int32) (fa : Int32) (bk : Int32) (ba : Int32) (spt : Int32) (hre : Int32) (tok : Int32) (val : Int32) (tn : Int32) (f : Nat → Int32) (sq : Nat → Int32) (x : Int32) (h_rl : rl ≤ 8) (h_38 : f 38 = nI rl) (h_nt : nt ≤ 6) (h_se : se ≤ 8) : Ct l E yX5_fits cX5_fits 7 (Option.some FieldType.int) 4 91 0 0 [.ref m0, .int (x)] [(m0, .inr (5, [.ref ma, .int (nI nt), .int (nI pp), .int (th), .ref mp, .int (rn), .int (ro), .int (to), .int (wt), .int (hn), .int (ho), .ref mt, .int (nI tl), .int (fa), .int (bk), .int (ba), .int (spt), .int (hre), .int (tok), .int (val), .ref mc, .ref ml, .ref mn, .int (nI se), .ref mk, .ref mg, .ref mh, .ref mq, .int (tn)])), (ma, .inl (E.2.1 1, 172, .inl (f))), (mn, .inl (E.2.1 1, 16, .inl (sq)))] (Rt (some (.int (if ¬ x < 0 ∧ ¬ 3 < x then (if x = 0 then nI (dyK (fiP rl th f sq se) (nI (2 ^ nt - 1)) (2 ^ nt)).1 else if (dyK (fiP rl th f sq se) (nI (2 ^ nt - 1)) (2 ^ nt)).1 = 0 then -4 else if x = 1 then (dyK (fiP rl th f sq se) (nI (2 ^ nt - 1)) (2 ^ nt)).2.1 else if x = 2 then (dyK (fiP rl th f sq se) (nI (2 ^ nt - 1)) (2 ^ nt)).2.2.2.1 else (dyK (fiP rl th f sq se) (nI (2 ^ nt - 1)) (2 ^ nt)).2.2.2.2) else -1))) [(m0, .inr (5, [.ref ma, .int (nI nt), .int (nI pp), .int (th), .ref mp, .int (rn), .int (ro), .int (to), .int (wt), .int (hn), .int (ho), .ref mt, .int (nI tl), .int (fa), .int (bk), .int (ba), .int (spt), .int (hre), .int (tok), .int (val), .ref mc, .ref ml, .ref mn, .int (nI se), .ref mk, .ref mg, .ref mh, .ref mq, .int (tn)])), (ma, .inl (E.2.1 1, 172, .inl (f))), (mn, .inl (E.2.1 1, 16, .inl (sq)))]) := by
  refine Ct.of (own := RX5) (nm := "fits") (lv := [(0, .ref m0), (1, .int (x))]) (by decide) rfl rfl (Nat.le_of_ble_eq_true rfl) rfl ?_
  have h64 := p64 h_nt
  have h0p := p1 nt
  refine v_iload_n (pc := 0) 1 dX5_fits_0 rfl rfl ?_
  refine v_i2l (pc := 1) dX5_fits_1 ?_
  refine v_lconst (pc := 2) (v := 0) dX5_fits_2 (by decide) ?_
  refine v_ldc2 (pc := 3) dX5_fits_3 tb_1161 ?_
  refine v_callS (pc := 6) (rest := []) [] lk_880 (c_X5_in l E (Int32.toInt64 (x)) 0 3) dX5_fits_6 rfl rfl (Nat.le_of_ble_eq_true rfl) (by decide) (by decide) rfl (Rt.len rfl) (Rt.go ?_)
  refine v_w (ws' := [(m0, .inr (5, [.ref ma, .int (nI nt), .int (nI pp), .int (th), .ref mp, .int (rn), .int (ro), .int (to), .int (wt), .int (hn), .int (ho), .ref mt, .int (nI tl), .int (fa), .int (bk), .int (ba), .int (spt), .int (hre), .int (tok), .int (val), .ref mc, .ref ml, .ref mn, .int (nI se), .ref mk, .ref mg, .ref mh, .ref mq, .int (tn)])), (ma, .inl (E.2.1 1, 172, .inl (f))), (mn, .inl (E.2.1 1, 16, .inl (sq)))]) rfl ?_
  refine v_st (st' := [.int (if ¬ (Int32.toInt64 (x)) < 0 ∧ ¬ 3 < (Int32.toInt64 (x)) then 1 else 0)]) rfl ?_
  refine v_st (st' := [.int (if ¬ x < 0 ∧ ¬ 3 < x then 1 else 0)]) (ite_st (inK (a := 0) (b := 3)) _) ?_
  refine v_ifB_ne (pc := 9) 14 dX5_fits_9 (by decide) (fun c_9 => ?_) (fun c_9 => ?_)
  · skip
    refine v_iconst (pc := 14) (v := 0) dX5_fits_14 (by decide) ?_
    refine v_istore_n (pc := 15) (lv' := [(2, .int (0)), (0, .ref m0), (1, .int (x))]) dX5_fits_15 rfl (by decide) rfl ?_
    refine v_bipush (pc := 16) (v := -4) dX5_fits_16 (by decide) ?_
    refine v_istore_n (pc := 18) (lv' := [(3, .int (-4)), (2, .int (0)), (0, .ref m0), (1, .int (x))]) dX5_fits_18 rfl (by decide) rfl ?_
    refine v_aload_n (pc := 19) 2 dX5_fits_19 rfl rfl ?_
    refine v_callV (pc := 20) (rest := []) [0] 0 lk_1024 (c_X5_sets l E m0 ma mp mt mc ml mn mk mg mh mq nt pp tl se th rn ro to wt hn ho fa bk ba spt hre tok val tn (by first | assumption | omega)) dX5_fits_20 rfl rfl (Nat.le_of_ble_eq_true rfl) (by decide) rfl rfl rfl (by decide) rfl (Rt.len rfl) (Rt.go ?_)
    refine v_w (ws' := [(m0, .inr (5, [.ref ma, .int (nI nt), .int (nI pp), .int (th), .ref mp, .int (rn), .int (ro), .int (to), .int (wt), .int (hn), .int (ho), .ref mt, .int (nI tl), .int (fa), .int (bk), .int (ba), .int (spt), .int (hre), .int (tok), .int (val), .ref mc, .ref ml, .ref mn, .int (nI se), .ref mk, .ref mg, .ref mh, .ref mq, .int (tn)])), (ma, .inl (E.2.1 1, 172, .inl (f))), (mn, .inl (E.2.1 1, 16, .inl (sq)))]) rfl ?_
    refine v_st (st' := [.int (nI (2 ^ nt))]) rfl ?_
    refine v_iconst (pc := 23) (v := 1) dX5_fits_23 (by decide) ?_
    refine v_isub (pc := 24) dX5_fits_24 ?_
    refine v_st (st' := [.int (nI (2 ^ nt - 1))]) (by rw [nI_m1 h0p]) ?_
    refine v_istore (pc := 25) (lv' := [(4, .int (nI (2 ^ nt - 1))), (3, .int (-4)), (2, .int (0)), (0, .ref m0), (1, .int (x))]) dX5_fits_25 (by decide) rfl ?_
    refine v_aload_n (pc := 27) 3 dX5_fits_27 rfl rfl ?_
    refine v_callV (pc := 28) (rest := []) [0] 0 lk_1024 (c_X5_sets l E m0 ma mp mt mc ml mn mk mg mh mq nt pp tl se th rn ro to wt hn ho fa bk ba spt hre tok val tn (by first | assumption | omega)) dX5_fits_28 rfl rfl (Nat.le_of_ble_eq_true rfl) (by decide) rfl rfl rfl (by decide) rfl (Rt.len rfl) (Rt.go ?_)
    refine v_w (ws' := [(m0, .inr (5, [.ref ma, .int (nI nt), .int (nI pp), .int (th), .ref mp, .int (rn), .int (ro), .int (to), .int (wt), .int (hn), .int (ho), .ref mt, .int (nI tl), .int (fa), .int (bk), .int (ba), .int (spt), .int (hre), .int (tok), .int (val), .ref mc, .ref ml, .ref mn, .int (nI se), .ref mk, .ref mg, .ref mh, .ref mq, .int (tn)])), (ma, .inl (E.2.1 1, 172, .inl (f))), (mn, .inl (E.2.1 1, 16, .inl (sq)))]) rfl ?_
    refine v_st (st' := [.int (nI (2 ^ nt))]) rfl ?_
    refine v_iconst (pc := 31) (v := 1) dX5_fits_31 (by decide) ?_
    refine v_isub (pc := 32) dX5_fits_32 ?_
    refine v_st (st' := [.int (nI (2 ^ nt - 1))]) (by rw [nI_m1 h0p]) ?_
    refine v_istore (pc := 33) (lv' := [(5, .int (nI (2 ^ nt - 1))), (4, .int (nI (2 ^ nt - 1))), (3, .int (-4)), (2, .int (0)), (0, .ref m0), (1, .int (x))]) dX5_fits_33 (by decide) rfl ?_
    refine v_iconst (pc := 35) (v := 0) dX5_fits_35 (by decide) ?_
    refine v_istore (pc := 36) (lv' := [(6, .int (0)), (5, .int (nI (2 ^ nt - 1))), (4, .int (nI (2 ^ nt - 1))), (3, .int (-4)), (2, .int (0)), (0, .ref m0), (1, .int (x))]) dX5_fits_36 (by decide) rfl ?_
    have loop_38 : ∀ (D_38 : Nat) (i : Nat) (n : Nat) (le : Int32) (al : Int32) (no : Int32), 2 ^ nt - i < D_38 → (i ≤ 2 ^ nt) → (n ≤ i) → (n = (dyK (fiP rl th f sq se) (nI (2 ^ nt - 1)) i).1 ∧ le = (dyK (fiP rl th f sq se) (nI (2 ^ nt - 1)) i).2.1 ∧ al = (dyK (fiP rl th f sq se) (nI (2 ^ nt - 1)) i).2.2.2.1 ∧ no = (dyK (fiP rl th f sq se) (nI (2 ^ nt - 1)) i).2.2.2.2) → V l E RX5 cX5_fits 7 (Option.some FieldType.int) "fits" ({ frames := 4, cells := 0, slots := 0, locals := 91 }) [(m0, .inr (5, [.ref ma, .int (nI nt), .int (nI pp), .int (th), .ref mp, .int (rn), .int (ro), .int (to), .int (wt), .int (hn), .int (ho), .ref mt, .int (nI tl), .int (fa), .int (bk), .int (ba), .int (spt), .int (hre), .int (tok), .int (val), .ref mc, .ref ml, .ref mn, .int (nI se), .ref mk, .ref mg, .ref mh, .ref mq, .int (tn)])), (ma, .inl (E.2.1 1, 172, .inl (f))), (mn, .inl (E.2.1 1, 16, .inl (sq)))] 0 0 (Rt (some (.int (if ¬ x < 0 ∧ ¬ 3 < x then (if x = 0 then nI (dyK (fiP rl th f sq se) (nI (2 ^ nt - 1)) (2 ^ nt)).1 else if (dyK (fiP rl th f sq se) (nI (2 ^ nt - 1)) (2 ^ nt)).1 = 0 then -4 else if x = 1 then (dyK (fiP rl th f sq se) (nI (2 ^ nt - 1)) (2 ^ nt)).2.1 else if x = 2 then (dyK (fiP rl th f sq se) (nI (2 ^ nt - 1)) (2 ^ nt)).2.2.2.1 else (dyK (fiP rl th f sq se) (nI (2 ^ nt - 1)) (2 ^ nt)).2.2.2.2) else -1))) [(m0, .inr (5, [.ref ma, .int (nI nt), .int (nI pp), .int (th), .ref mp, .int (rn), .int (ro), .int (to), .int (wt), .int (hn), .int (ho), .ref mt, .int (nI tl), .int (fa), .int (bk), .int (ba), .int (spt), .int (hre), .int (tok), .int (val), .ref mc, .ref ml, .ref mn, .int (nI se), .ref mk, .ref mg, .ref mh, .ref mq, .int (tn)])), (ma, .inl (E.2.1 1, 172, .inl (f))), (mn, .inl (E.2.1 1, 16, .inl (sq)))]) 0 0 38 [(6, .int (nI i)), (2, .int (nI n)), (3, .int (le)), (4, .int (al)), (5, .int (no)), (0, .ref m0), (1, .int (x))] [] [(m0, .inr (5, [.ref ma, .int (nI nt), .int (nI pp), .int (th), .ref mp, .int (rn), .int (ro), .int (to), .int (wt), .int (hn), .int (ho), .ref mt, .int (nI tl), .int (fa), .int (bk), .int (ba), .int (spt), .int (hre), .int (tok), .int (val), .ref mc, .ref ml, .ref mn, .int (nI se), .ref mk, .ref mg, .ref mh, .ref mq, .int (tn)])), (ma, .inl (E.2.1 1, 172, .inl (f))), (mn, .inl (E.2.1 1, 16, .inl (sq)))] := by
      intro D_38
      induction D_38 with
      | zero => intro i n le al no h; exact absurd h (Nat.not_lt_zero _)
      | succ D_38 ih_38 =>
        intro i n le al no hmu_38 h_38_0 h_38_1 h_38_2
        refine v_iload (pc := 38) 0 dX5_fits_38 rfl ?_
        refine v_aload_n (pc := 40) 5 dX5_fits_40 rfl rfl ?_
        refine v_callV (pc := 41) (rest := [.int (nI i)]) [0] 0 lk_1024 (c_X5_sets l E m0 ma mp mt mc ml mn mk mg mh mq nt pp tl se th rn ro to wt hn ho fa bk ba spt hre tok val tn (by first | assumption | omega)) dX5_fits_41 rfl rfl (Nat.le_of_ble_eq_true rfl) (by decide) rfl rfl rfl (by decide) rfl (Rt.len rfl) (Rt.go ?_)
        refine v_w (ws' := [(m0, .inr (5, [.ref ma, .int (nI nt), .int (nI pp), .int (th), .ref mp, .int (rn), .int (ro), .int (to), .int (wt), .int (hn), .int (ho), .ref mt, .int (nI tl), .int (fa), .int (bk), .int (ba), .int (spt), .int (hre), .int (tok), .int (val), .ref mc, .ref ml, .ref mn, .int (nI se), .ref mk, .ref mg, .ref mh, .ref mq, .int (tn)])), (ma, .inl (E.2.1 1, 172, .inl (f))), (mn, .inl (E.2.1 1, 16, .inl (sq)))]) rfl ?_
        refine v_st (st' := [.int (nI (2 ^ nt)), .int (nI i)]) rfl ?_
        refine v_cmpN_ge (pc := 44) (a := i) (b := 2 ^ nt) 92 dX5_fits_44 (by decide) (by omega) (by omega) (fun c_44 => ?_) (fun c_44 => ?_)
        · skip
          refine v_iload_n (pc := 92) 6 dX5_fits_92 rfl rfl ?_
          refine v_if_eq (pc := 93) 100 dX5_fits_93 (by decide) (fun c_93 => ?_) (fun c_93 => ?_)
          · skip
            refine v_iload_n (pc := 100) 6 dX5_fits_100 rfl rfl ?_
            refine v_if_ne (pc := 101) 108 dX5_fits_101 (by decide) (fun c_101 => ?_) (fun c_101 => ?_)
            · skip
              refine v_bipush (pc := 108) (v := -4) dX5_fits_108 (by decide) ?_
              refine v_iret (pc := 110) dX5_fits_110 rfl ⟨rfl, rfl⟩ (Rt.i ?_)
              exact absurd c_93 c_101
            · skip
              refine v_iload_n (pc := 104) 1 dX5_fits_104 rfl rfl ?_
              refine v_goto (pc := 105) 110 dX5_fits_105 (by decide) ?_
              refine v_iret (pc := 110) dX5_fits_110 rfl ⟨rfl, rfl⟩ (Rt.i ?_)
              obtain rfl : i = 2 ^ nt := by omega
              rw [if_pos c_9, ← h_38_2.1, if_pos c_101]
          · skip
            refine v_iload_n (pc := 96) 1 dX5_fits_96 rfl rfl ?_
            refine v_ifN_ne (pc := 97) (a := n) 111 dX5_fits_97 (by decide) (by omega) (fun c_97 => ?_) (fun c_97 => ?_)
            · skip
              refine v_iload_n (pc := 111) 6 dX5_fits_111 rfl rfl ?_
              refine v_iconst (pc := 112) (v := 1) dX5_fits_112 (by decide) ?_
              refine v_icmp_ne (pc := 113) 120 dX5_fits_113 (by decide) (fun c_113 => ?_) (fun c_113 => ?_)
              · skip
                refine v_iload_n (pc := 120) 6 dX5_fits_120 rfl rfl ?_
                refine v_iconst (pc := 121) (v := 2) dX5_fits_121 (by decide) ?_
                refine v_icmp_ne (pc := 122) 130 dX5_fits_122 (by decide) (fun c_122 => ?_) (fun c_122 => ?_)
                · skip
                  refine v_iload (pc := 130) 4 dX5_fits_130 rfl ?_
                  refine v_iret (pc := 132) dX5_fits_132 rfl ⟨rfl, rfl⟩ (Rt.i ?_)
                  obtain rfl : i = 2 ^ nt := by omega
                  rw [if_pos c_9, ← h_38_2.1, ← h_38_2.2.1, ← h_38_2.2.2.1, ← h_38_2.2.2.2, if_neg c_93, if_neg c_97, if_neg c_113, if_neg c_122]
                · skip
                  refine v_iload (pc := 125) 3 dX5_fits_125 rfl ?_
                  refine v_goto (pc := 127) 132 dX5_fits_127 (by decide) ?_
                  refine v_iret (pc := 132) dX5_fits_132 rfl ⟨rfl, rfl⟩ (Rt.i ?_)
                  obtain rfl : i = 2 ^ nt := by omega
                  rw [if_pos c_9, ← h_38_2.1, ← h_38_2.2.1, ← h_38_2.2.2.1, ← h_38_2.2.2.2, if_neg c_93, if_neg c_97, if_neg c_113, if_pos c_122]
              · skip
                refine v_iload_n (pc := 116) 2 dX5_fits_116 rfl rfl ?_
                refine v_goto (pc := 117) 132 dX5_fits_117 (by decide) ?_
                refine v_iret (pc := 132) dX5_fits_132 rfl ⟨rfl, rfl⟩ (Rt.i ?_)
                obtain rfl : i = 2 ^ nt := by omega
                rw [if_pos c_9, ← h_38_2.1, ← h_38_2.2.1, ← h_38_2.2.2.1, ← h_38_2.2.2.2, if_neg c_93, if_neg c_97, if_pos c_113]
            · skip
              refine v_iload_n (pc := 100) 6 dX5_fits_100 rfl rfl ?_
              refine v_if_ne (pc := 101) 108 dX5_fits_101 (by decide) (fun c_101 => ?_) (fun c_101 => ?_)
              · skip
                refine v_bipush (pc := 108) (v := -4) dX5_fits_108 (by decide) ?_
                refine v_iret (pc := 110) dX5_fits_110 rfl ⟨rfl, rfl⟩ (Rt.i ?_)
                obtain rfl : i = 2 ^ nt := by omega
                rw [if_pos c_9, ← h_38_2.1, if_neg c_101, if_pos c_97]
              · skip
                refine v_iload_n (pc := 104) 1 dX5_fits_104 rfl rfl ?_
                refine v_goto (pc := 105) 110 dX5_fits_105 (by decide) ?_
                refine v_iret (pc := 110) dX5_fits_110 rfl ⟨rfl, rfl⟩ (Rt.i ?_)
                exact absurd c_101 c_93
        · skip
          refine v_aload_n (pc := 47) 5 dX5_fits_47 rfl rfl ?_
          refine v_iload (pc := 48) 0 dX5_fits_48 rfl ?_
          refine v_callV (pc := 50) (rest := []) [0, 1, 2] 0 lk_1162 (c_X5_isFit l E m0 ma mp mt mc ml mn mk mg mh mq nt pp rl tl se th rn ro to wt hn ho fa bk ba spt hre tok val tn f sq (nI i) (by first | assumption | omega) (by first | assumption | omega) (by first | assumption | omega)) dX5_fits_50 rfl rfl (Nat.le_of_ble_eq_true rfl) (by decide) rfl rfl rfl (by decide) rfl (Rt.len rfl) (Rt.go ?_)
          refine v_w (ws' := [(m0, .inr (5, [.ref ma, .int (nI nt), .int (nI pp), .int (th), .ref mp, .int (rn), .int (ro), .int (to), .int (wt), .int (hn), .int (ho), .ref mt, .int (nI tl), .int (fa), .int (bk), .int (ba), .int (spt), .int (hre), .int (tok), .int (val), .ref mc, .ref ml, .ref mn, .int (nI se), .ref mk, .ref mg, .ref mh, .ref mq, .int (tn)])), (ma, .inl (E.2.1 1, 172, .inl (f))), (mn, .inl (E.2.1 1, 16, .inl (sq)))]) rfl ?_
          refine v_st (st' := [.int (if ftM sq (nI i) (decide (outM rl th f (nI i) = (nI i))) se = true then 1 else 0)]) rfl ?_
          refine v_st (st' := [.int (if fiP rl th f sq se i = true then 1 else 0)]) rfl ?_
          refine v_ifB_eq (pc := 53) 86 dX5_fits_53 (by decide) (fun c_53 => ?_) (fun c_53 => ?_)
          · skip
            refine v_iinc (pc := 86) (v := nI (i + 1)) (lv' := [(6, .int (nI (i + 1))), (2, .int (nI n)), (3, .int (le)), (4, .int (al)), (5, .int (no)), (0, .ref m0), (1, .int (x))]) 0 dX5_fits_86 rfl (nI_inc (i) 1) (by decide) rfl ?_
            refine v_goto (pc := 89) 38 dX5_fits_89 (by decide) ?_
            refine v_lv (lv' := [(6, .int (nI (i + 1))), (2, .int (nI n)), (3, .int (le)), (4, .int (al)), (5, .int (no)), (0, .ref m0), (1, .int (x))]) [0, 1, 2, 3, 4, 5, 6] rfl ?_
            refine ih_38 (i + 1) n le al no (by omega) ?_ ?_ ?_
            · omega
            · omega
            · simp only [dyK]; rw [if_neg c_53]; exact h_38_2
          · skip
            refine v_iload_n (pc := 56) 1 dX5_fits_56 rfl rfl ?_
            suffices J_57 : V l E RX5 cX5_fits 7 (Option.some FieldType.int) "fits" ({ frames := 4, cells := 0, slots := 0, locals := 91 }) [(m0, .inr (5, [.ref ma, .int (nI nt), .int (nI pp), .int (th), .ref mp, .int (rn), .int (ro), .int (to), .int (wt), .int (hn), .int (ho), .ref mt, .int (nI tl), .int (fa), .int (bk), .int (ba), .int (spt), .int (hre), .int (tok), .int (val), .ref mc, .ref ml, .ref mn, .int (nI se), .ref mk, .ref mg, .ref mh, .ref mq, .int (tn)])), (ma, .inl (E.2.1 1, 172, .inl (f))), (mn, .inl (E.2.1 1, 16, .inl (sq)))] 0 0 (Rt (some (.int (if ¬ x < 0 ∧ ¬ 3 < x then (if x = 0 then nI (dyK (fiP rl th f sq se) (nI (2 ^ nt - 1)) (2 ^ nt)).1 else if (dyK (fiP rl th f sq se) (nI (2 ^ nt - 1)) (2 ^ nt)).1 = 0 then -4 else if x = 1 then (dyK (fiP rl th f sq se) (nI (2 ^ nt - 1)) (2 ^ nt)).2.1 else if x = 2 then (dyK (fiP rl th f sq se) (nI (2 ^ nt - 1)) (2 ^ nt)).2.2.2.1 else (dyK (fiP rl th f sq se) (nI (2 ^ nt - 1)) (2 ^ nt)).2.2.2.2) else -1))) [(m0, .inr (5, [.ref ma, .int (nI nt), .int (nI pp), .int (th), .ref mp, .int (rn), .int (ro), .int (to), .int (wt), .int (hn), .int (ho), .ref mt, .int (nI tl), .int (fa), .int (bk), .int (ba), .int (spt), .int (hre), .int (tok), .int (val), .ref mc, .ref ml, .ref mn, .int (nI se), .ref mk, .ref mg, .ref mh, .ref mq, .int (tn)])), (ma, .inl (E.2.1 1, 172, .inl (f))), (mn, .inl (E.2.1 1, 16, .inl (sq)))]) 0 0 66 [(6, .int (nI i)), (2, .int (nI n)), (3, .int (le)), (4, .int (al)), (5, .int (no)), (0, .ref m0), (1, .int (x))] [.int (if ¬ n = 0 then le else nI i)] [(m0, .inr (5, [.ref ma, .int (nI nt), .int (nI pp), .int (th), .ref mp, .int (rn), .int (ro), .int (to), .int (wt), .int (hn), .int (ho), .ref mt, .int (nI tl), .int (fa), .int (bk), .int (ba), .int (spt), .int (hre), .int (tok), .int (val), .ref mc, .ref ml, .ref mn, .int (nI se), .ref mk, .ref mg, .ref mh, .ref mq, .int (tn)])), (ma, .inl (E.2.1 1, 172, .inl (f))), (mn, .inl (E.2.1 1, 16, .inl (sq)))] by
              refine v_ifN_ne (pc := 57) (a := n) 65 dX5_fits_57 (by decide) (by omega) (fun c_57 => ?_) (fun c_57 => ?_)
              · skip
                refine v_iload_n (pc := 65) 2 dX5_fits_65 rfl rfl ?_
                refine v_st ?_ J_57
                rw [if_pos (show ¬ n = 0 from c_57)]
              · skip
                refine v_iload (pc := 60) 0 dX5_fits_60 rfl ?_
                refine v_goto (pc := 62) 66 dX5_fits_62 (by decide) ?_
                refine v_st ?_ J_57
                rw [if_neg (show ¬ (¬ n = 0) from (by first | exact c_57 | omega | exact fun q => q c_57))]
            refine v_istore_n (pc := 66) (lv' := [(3, .int (if ¬ n = 0 then le else nI i)), (6, .int (nI i)), (2, .int (nI n)), (4, .int (al)), (5, .int (no)), (0, .ref m0), (1, .int (x))]) dX5_fits_66 rfl (by decide) rfl ?_
            refine v_iload (pc := 67) 3 dX5_fits_67 rfl ?_
            refine v_iload (pc := 69) 1 dX5_fits_69 rfl ?_
            refine v_iand (pc := 71) dX5_fits_71 ?_
            refine v_istore (pc := 72) (lv' := [(4, .int ((al) &&& (nI i))), (3, .int (if ¬ n = 0 then le else nI i)), (6, .int (nI i)), (2, .int (nI n)), (5, .int (no)), (0, .ref m0), (1, .int (x))]) dX5_fits_72 (by decide) rfl ?_
            refine v_iload (pc := 74) 4 dX5_fits_74 rfl ?_
            refine v_iload (pc := 76) 2 dX5_fits_76 rfl ?_
            refine v_iconst (pc := 78) (v := -1) dX5_fits_78 (by decide) ?_
            refine v_ixor (pc := 79) dX5_fits_79 ?_
            refine v_iand (pc := 80) dX5_fits_80 ?_
            refine v_istore (pc := 81) (lv' := [(5, .int ((no) &&& ((nI i) ^^^ (-1)))), (4, .int ((al) &&& (nI i))), (3, .int (if ¬ n = 0 then le else nI i)), (6, .int (nI i)), (2, .int (nI n)), (0, .ref m0), (1, .int (x))]) dX5_fits_81 (by decide) rfl ?_
            refine v_iinc (pc := 83) (v := nI (n + 1)) (lv' := [(2, .int (nI (n + 1))), (5, .int ((no) &&& ((nI i) ^^^ (-1)))), (4, .int ((al) &&& (nI i))), (3, .int (if ¬ n = 0 then le else nI i)), (6, .int (nI i)), (0, .ref m0), (1, .int (x))]) 4 dX5_fits_83 rfl (nI_inc (n) 1) (by decide) rfl ?_
            refine v_iinc (pc := 86) (v := nI (i + 1)) (lv' := [(6, .int (nI (i + 1))), (2, .int (nI (n + 1))), (5, .int ((no) &&& ((nI i) ^^^ (-1)))), (4, .int ((al) &&& (nI i))), (3, .int (if ¬ n = 0 then le else nI i)), (0, .ref m0), (1, .int (x))]) 4 dX5_fits_86 rfl (nI_inc (i) 1) (by decide) rfl ?_
            refine v_goto (pc := 89) 38 dX5_fits_89 (by decide) ?_
            refine v_lv (lv' := [(6, .int (nI (i + 1))), (2, .int (nI (n + 1))), (3, .int (if ¬ n = 0 then le else nI i)), (4, .int ((al) &&& (nI i))), (5, .int ((no) &&& ((nI i) ^^^ (-1)))), (0, .ref m0), (1, .int (x))]) [0, 1, 4, 3, 2, 5, 6] rfl ?_
            refine ih_38 (i + 1) (n + 1) (if ¬ n = 0 then le else nI i) ((al) &&& (nI i)) ((no) &&& ((nI i) ^^^ (-1))) (by omega) ?_ ?_ ?_
            · omega
            · omega
            · simp only [dyK]; rw [if_pos c_53, ← h_38_2.1, ← h_38_2.2.1, ← h_38_2.2.2.1, ← h_38_2.2.2.2]; exact ⟨rfl, (by by_cases q : n = 0 <;> simp [q]), rfl, rfl⟩
    refine v_lv (lv' := [(6, .int (nI 0)), (2, .int (nI 0)), (3, .int (-4)), (4, .int (nI (2 ^ nt - 1))), (5, .int (nI (2 ^ nt - 1))), (0, .ref m0), (1, .int (x))]) [0, 4, 3, 2, 1, 5, 6] rfl ?_
    refine loop_38 ((2 ^ nt - 0) + 1) 0 0 (-4) (nI (2 ^ nt - 1)) (nI (2 ^ nt - 1)) (Nat.lt_succ_self _) ?_ ?_ ?_
    · omega
    · omega
    · exact ⟨rfl, rfl, rfl, rfl⟩
  · skip
    refine v_iconst (pc := 12) (v := -1) dX5_fits_12 (by decide) ?_
    refine v_iret (pc := 13) dX5_fits_13 rfl ⟨rfl, rfl⟩ (Rt.i ?_)
    rw [if_neg c_9]
theorem c_X5_ask (l : Launch) (E : VE) (m0 : Nat) (ma : Nat) (mp : Nat) (mt : Nat) (mc : Nat) (ml : Nat) (mn : Nat) (mk : Nat) (mg : Nat) (mh : Nat) (mq : Nat) (nt : Nat) (pp : Nat) (rl : Nat) (tl : Nat) (se : Nat) (th : Int32) (rn : Int32) (ro : Int32) (to : Int32) (wt : Int32) (hn : Int32) (ho : Int32) (fa : Int32) (bk : Int32) (ba : Int32) (spt : Int32) (hre : Int32) (tok : Int32) (val : Int32) (tn : Int32) (f : Nat → Int32) (sq : Nat → Int32) (wh : Int32) (h_rl : rl ≤ 8) (h_38 : f 38 = nI rl) (h_nt : nt ≤ 6) (h_se : se ≤ 8) : Ct l E yX5_ask cX5_ask 8 (Option.some FieldType.int) 4 91 0 0 [.ref m0, .int (wh)] [(m0, .inr (5, [.ref ma, .int (nI nt), .int (nI pp), .int (th), .ref mp, .int (rn), .int (ro), .int (to), .int (wt), .int (hn), .int (ho), .ref mt, .int (nI tl), .int (fa), .int (bk), .int (ba), .int (spt), .int (hre), .int (tok), .int (val), .ref mc, .ref ml, .ref mn, .int (nI se), .ref mk, .ref mg, .ref mh, .ref mq, .int (tn)])), (ma, .inl (E.2.1 1, 172, .inl (f))), (mn, .inl (E.2.1 1, 16, .inl (sq)))] (Rt (some (.int (if ¬ wh < 0 ∧ ¬ 1 < wh then (if (akM (fiP rl th f sq se) (2 ^ nt) nt).2 = -4 then (akM (fiP rl th f sq se) (2 ^ nt) nt).2 else if wh = 0 then (akM (fiP rl th f sq se) (2 ^ nt) nt).2 else nI (akM (fiP rl th f sq se) (2 ^ nt) nt).1) else -1))) [(m0, .inr (5, [.ref ma, .int (nI nt), .int (nI pp), .int (th), .ref mp, .int (rn), .int (ro), .int (to), .int (wt), .int (hn), .int (ho), .ref mt, .int (nI tl), .int (fa), .int (bk), .int (ba), .int (spt), .int (hre), .int (tok), .int (val), .ref mc, .ref ml, .ref mn, .int (nI se), .ref mk, .ref mg, .ref mh, .ref mq, .int (tn)])), (ma, .inl (E.2.1 1, 172, .inl (f))), (mn, .inl (E.2.1 1, 16, .inl (sq)))]) := by
  refine Ct.of (own := RX5) (nm := "ask") (lv := [(0, .ref m0), (1, .int (wh))]) (by decide) rfl rfl (Nat.le_of_ble_eq_true rfl) rfl ?_
  have h64 := p64 h_nt
  have h0p := p1 nt
  refine v_iload_n (pc := 0) 1 dX5_ask_0 rfl rfl ?_
  refine v_i2l (pc := 1) dX5_ask_1 ?_
  refine v_lconst (pc := 2) (v := 0) dX5_ask_2 (by decide) ?_
  refine v_lconst (pc := 3) (v := 1) dX5_ask_3 (by decide) ?_
  refine v_callS (pc := 4) (rest := []) [] lk_880 (c_X5_in l E (Int32.toInt64 (wh)) 0 1) dX5_ask_4 rfl rfl (Nat.le_of_ble_eq_true rfl) (by decide) (by decide) rfl (Rt.len rfl) (Rt.go ?_)
  refine v_w (ws' := [(m0, .inr (5, [.ref ma, .int (nI nt), .int (nI pp), .int (th), .ref mp, .int (rn), .int (ro), .int (to), .int (wt), .int (hn), .int (ho), .ref mt, .int (nI tl), .int (fa), .int (bk), .int (ba), .int (spt), .int (hre), .int (tok), .int (val), .ref mc, .ref ml, .ref mn, .int (nI se), .ref mk, .ref mg, .ref mh, .ref mq, .int (tn)])), (ma, .inl (E.2.1 1, 172, .inl (f))), (mn, .inl (E.2.1 1, 16, .inl (sq)))]) rfl ?_
  refine v_st (st' := [.int (if ¬ (Int32.toInt64 (wh)) < 0 ∧ ¬ 1 < (Int32.toInt64 (wh)) then 1 else 0)]) rfl ?_
  refine v_st (st' := [.int (if ¬ wh < 0 ∧ ¬ 1 < wh then 1 else 0)]) (ite_st (inK (a := 0) (b := 1)) _) ?_
  refine v_ifB_ne (pc := 7) 12 dX5_ask_7 (by decide) (fun c_7 => ?_) (fun c_7 => ?_)
  · skip
    refine v_iconst (pc := 12) (v := 0) dX5_ask_12 (by decide) ?_
    refine v_istore_n (pc := 13) (lv' := [(2, .int (0)), (0, .ref m0), (1, .int (wh))]) dX5_ask_13 rfl (by decide) rfl ?_
    refine v_iconst (pc := 14) (v := 0) dX5_ask_14 (by decide) ?_
    refine v_istore_n (pc := 15) (lv' := [(3, .int (0)), (2, .int (0)), (0, .ref m0), (1, .int (wh))]) dX5_ask_15 rfl (by decide) rfl ?_
    have loop_16 : ∀ (D_16 : Nat) (i : Nat) (now : Nat), 2 ^ nt - i < D_16 → (i ≤ 2 ^ nt) → (now = cntM (fiP rl th f sq se) i) → V l E RX5 cX5_ask 8 (Option.some FieldType.int) "ask" ({ frames := 4, cells := 0, slots := 0, locals := 91 }) [(m0, .inr (5, [.ref ma, .int (nI nt), .int (nI pp), .int (th), .ref mp, .int (rn), .int (ro), .int (to), .int (wt), .int (hn), .int (ho), .ref mt, .int (nI tl), .int (fa), .int (bk), .int (ba), .int (spt), .int (hre), .int (tok), .int (val), .ref mc, .ref ml, .ref mn, .int (nI se), .ref mk, .ref mg, .ref mh, .ref mq, .int (tn)])), (ma, .inl (E.2.1 1, 172, .inl (f))), (mn, .inl (E.2.1 1, 16, .inl (sq)))] 0 0 (Rt (some (.int (if ¬ wh < 0 ∧ ¬ 1 < wh then (if (akM (fiP rl th f sq se) (2 ^ nt) nt).2 = -4 then (akM (fiP rl th f sq se) (2 ^ nt) nt).2 else if wh = 0 then (akM (fiP rl th f sq se) (2 ^ nt) nt).2 else nI (akM (fiP rl th f sq se) (2 ^ nt) nt).1) else -1))) [(m0, .inr (5, [.ref ma, .int (nI nt), .int (nI pp), .int (th), .ref mp, .int (rn), .int (ro), .int (to), .int (wt), .int (hn), .int (ho), .ref mt, .int (nI tl), .int (fa), .int (bk), .int (ba), .int (spt), .int (hre), .int (tok), .int (val), .ref mc, .ref ml, .ref mn, .int (nI se), .ref mk, .ref mg, .ref mh, .ref mq, .int (tn)])), (ma, .inl (E.2.1 1, 172, .inl (f))), (mn, .inl (E.2.1 1, 16, .inl (sq)))]) 0 0 16 [(3, .int (nI i)), (2, .int (nI now)), (0, .ref m0), (1, .int (wh))] [] [(m0, .inr (5, [.ref ma, .int (nI nt), .int (nI pp), .int (th), .ref mp, .int (rn), .int (ro), .int (to), .int (wt), .int (hn), .int (ho), .ref mt, .int (nI tl), .int (fa), .int (bk), .int (ba), .int (spt), .int (hre), .int (tok), .int (val), .ref mc, .ref ml, .ref mn, .int (nI se), .ref mk, .ref mg, .ref mh, .ref mq, .int (tn)])), (ma, .inl (E.2.1 1, 172, .inl (f))), (mn, .inl (E.2.1 1, 16, .inl (sq)))] := by
      intro D_16
      induction D_16 with
      | zero => intro i now h; exact absurd h (Nat.not_lt_zero _)
      | succ D_16 ih_16 =>
        intro i now hmu_16 h_16_0 h_16_1
        refine v_iload_n (pc := 16) 0 dX5_ask_16 rfl rfl ?_
        refine v_aload_n (pc := 17) 2 dX5_ask_17 rfl rfl ?_
        refine v_callV (pc := 18) (rest := [.int (nI i)]) [0] 0 lk_1024 (c_X5_sets l E m0 ma mp mt mc ml mn mk mg mh mq nt pp tl se th rn ro to wt hn ho fa bk ba spt hre tok val tn (by first | assumption | omega)) dX5_ask_18 rfl rfl (Nat.le_of_ble_eq_true rfl) (by decide) rfl rfl rfl (by decide) rfl (Rt.len rfl) (Rt.go ?_)
        refine v_w (ws' := [(m0, .inr (5, [.ref ma, .int (nI nt), .int (nI pp), .int (th), .ref mp, .int (rn), .int (ro), .int (to), .int (wt), .int (hn), .int (ho), .ref mt, .int (nI tl), .int (fa), .int (bk), .int (ba), .int (spt), .int (hre), .int (tok), .int (val), .ref mc, .ref ml, .ref mn, .int (nI se), .ref mk, .ref mg, .ref mh, .ref mq, .int (tn)])), (ma, .inl (E.2.1 1, 172, .inl (f))), (mn, .inl (E.2.1 1, 16, .inl (sq)))]) rfl ?_
        refine v_st (st' := [.int (nI (2 ^ nt)), .int (nI i)]) rfl ?_
        refine v_cmpN_ge (pc := 21) (a := i) (b := 2 ^ nt) 46 dX5_ask_21 (by decide) (by omega) (by omega) (fun c_21 => ?_) (fun c_21 => ?_)
        · skip
          have hn64 : now ≤ 64 := by have e := cntM_le (fiP rl th f sq se) (2 ^ nt); obtain rfl : i = 2 ^ nt := (by omega); omega
          have hnow : now = cntM (fiP rl th f sq se) (2 ^ nt) := by obtain rfl : i = 2 ^ nt := (by omega); exact h_16_1
          refine v_iload_n (pc := 46) 1 dX5_ask_46 rfl rfl ?_
          refine v_istore_n (pc := 47) (lv' := [(3, .int (nI now)), (2, .int (nI now)), (0, .ref m0), (1, .int (wh))]) dX5_ask_47 rfl (by decide) rfl ?_
          refine v_bipush (pc := 48) (v := -4) dX5_ask_48 (by decide) ?_
          refine v_istore (pc := 50) (lv' := [(4, .int (-4)), (3, .int (nI now)), (2, .int (nI now)), (0, .ref m0), (1, .int (wh))]) dX5_ask_50 (by decide) rfl ?_
          refine v_iconst (pc := 52) (v := 0) dX5_ask_52 (by decide) ?_
          refine v_istore (pc := 53) (lv' := [(5, .int (0)), (4, .int (-4)), (3, .int (nI now)), (2, .int (nI now)), (0, .ref m0), (1, .int (wh))]) dX5_ask_53 (by decide) rfl ?_
          have loop_55 : ∀ (D_55 : Nat) (k : Nat) (fe : Nat) (wc : Int32), nt - k < D_55 → (k ≤ nt) → (fe ≤ 64) → ((fe, wc) = akM (fiP rl th f sq se) (2 ^ nt) k) → V l E RX5 cX5_ask 8 (Option.some FieldType.int) "ask" ({ frames := 4, cells := 0, slots := 0, locals := 91 }) [(m0, .inr (5, [.ref ma, .int (nI nt), .int (nI pp), .int (th), .ref mp, .int (rn), .int (ro), .int (to), .int (wt), .int (hn), .int (ho), .ref mt, .int (nI tl), .int (fa), .int (bk), .int (ba), .int (spt), .int (hre), .int (tok), .int (val), .ref mc, .ref ml, .ref mn, .int (nI se), .ref mk, .ref mg, .ref mh, .ref mq, .int (tn)])), (ma, .inl (E.2.1 1, 172, .inl (f))), (mn, .inl (E.2.1 1, 16, .inl (sq)))] 0 0 (Rt (some (.int (if ¬ wh < 0 ∧ ¬ 1 < wh then (if (akM (fiP rl th f sq se) (2 ^ nt) nt).2 = -4 then (akM (fiP rl th f sq se) (2 ^ nt) nt).2 else if wh = 0 then (akM (fiP rl th f sq se) (2 ^ nt) nt).2 else nI (akM (fiP rl th f sq se) (2 ^ nt) nt).1) else -1))) [(m0, .inr (5, [.ref ma, .int (nI nt), .int (nI pp), .int (th), .ref mp, .int (rn), .int (ro), .int (to), .int (wt), .int (hn), .int (ho), .ref mt, .int (nI tl), .int (fa), .int (bk), .int (ba), .int (spt), .int (hre), .int (tok), .int (val), .ref mc, .ref ml, .ref mn, .int (nI se), .ref mk, .ref mg, .ref mh, .ref mq, .int (tn)])), (ma, .inl (E.2.1 1, 172, .inl (f))), (mn, .inl (E.2.1 1, 16, .inl (sq)))]) 0 0 55 [(5, .int (nI k)), (3, .int (nI fe)), (4, .int (wc)), (2, .int (nI now)), (0, .ref m0), (1, .int (wh))] [] [(m0, .inr (5, [.ref ma, .int (nI nt), .int (nI pp), .int (th), .ref mp, .int (rn), .int (ro), .int (to), .int (wt), .int (hn), .int (ho), .ref mt, .int (nI tl), .int (fa), .int (bk), .int (ba), .int (spt), .int (hre), .int (tok), .int (val), .ref mc, .ref ml, .ref mn, .int (nI se), .ref mk, .ref mg, .ref mh, .ref mq, .int (tn)])), (ma, .inl (E.2.1 1, 172, .inl (f))), (mn, .inl (E.2.1 1, 16, .inl (sq)))] := by
            intro D_55
            induction D_55 with
            | zero => intro k fe wc h; exact absurd h (Nat.not_lt_zero _)
            | succ D_55 ih_55 =>
              intro k fe wc hmu_55 h_55_0 h_55_1 h_55_2
              refine v_iload (pc := 55) 0 dX5_ask_55 rfl ?_
              refine v_aload_n (pc := 57) 4 dX5_ask_57 rfl rfl ?_
              refine gf_788 (pc := 58) 0 dX5_ask_58 rfl rfl ?_
              refine v_cmpN_ge (pc := 61) (a := k) (b := nt) 169 dX5_ask_61 (by decide) (by omega) (by omega) (fun c_61 => ?_) (fun c_61 => ?_)
              · skip
                refine v_iload (pc := 169) 2 dX5_ask_169 rfl ?_
                refine v_bipush (pc := 171) (v := -4) dX5_ask_171 (by decide) ?_
                refine v_icmp_eq (pc := 173) 180 dX5_ask_173 (by decide) (fun c_173 => ?_) (fun c_173 => ?_)
                · skip
                  refine v_iload (pc := 180) 2 dX5_ask_180 rfl ?_
                  refine v_goto (pc := 182) 186 dX5_ask_182 (by decide) ?_
                  refine v_iret (pc := 186) dX5_ask_186 rfl ⟨rfl, rfl⟩ (Rt.i ?_)
                  obtain rfl : k = nt := by omega
                  rw [if_pos c_7, ← h_55_2, if_pos c_173]
                · skip
                  refine v_iload_n (pc := 176) 5 dX5_ask_176 rfl rfl ?_
                  refine v_if_ne (pc := 177) 185 dX5_ask_177 (by decide) (fun c_177 => ?_) (fun c_177 => ?_)
                  · skip
                    refine v_iload_n (pc := 185) 1 dX5_ask_185 rfl rfl ?_
                    refine v_iret (pc := 186) dX5_ask_186 rfl ⟨rfl, rfl⟩ (Rt.i ?_)
                    obtain rfl : k = nt := by omega
                    rw [if_pos c_7, ← h_55_2, if_neg c_173, if_neg c_177]
                  · skip
                    refine v_iload (pc := 180) 2 dX5_ask_180 rfl ?_
                    refine v_goto (pc := 182) 186 dX5_ask_182 (by decide) ?_
                    refine v_iret (pc := 186) dX5_ask_186 rfl ⟨rfl, rfl⟩ (Rt.i ?_)
                    obtain rfl : k = nt := by omega
                    rw [if_pos c_7, ← h_55_2, if_neg c_173, if_pos c_177]
              · skip
                refine v_iconst (pc := 64) (v := 0) dX5_ask_64 (by decide) ?_
                refine v_istore (pc := 65) (lv' := [(6, .int (0)), (5, .int (nI k)), (3, .int (nI fe)), (4, .int (wc)), (2, .int (nI now)), (0, .ref m0), (1, .int (wh))]) dX5_ask_65 (by decide) rfl ?_
                refine v_iconst (pc := 67) (v := 0) dX5_ask_67 (by decide) ?_
                refine v_istore (pc := 68) (lv' := [(7, .int (0)), (6, .int (0)), (5, .int (nI k)), (3, .int (nI fe)), (4, .int (wc)), (2, .int (nI now)), (0, .ref m0), (1, .int (wh))]) dX5_ask_68 (by decide) rfl ?_
                have loop_70 : ∀ (D_70 : Nat) (j : Nat) (y : Nat), 2 ^ nt - j < D_70 → (j ≤ 2 ^ nt) → (y = yesM (fiP rl th f sq se) k j) → V l E RX5 cX5_ask 8 (Option.some FieldType.int) "ask" ({ frames := 4, cells := 0, slots := 0, locals := 91 }) [(m0, .inr (5, [.ref ma, .int (nI nt), .int (nI pp), .int (th), .ref mp, .int (rn), .int (ro), .int (to), .int (wt), .int (hn), .int (ho), .ref mt, .int (nI tl), .int (fa), .int (bk), .int (ba), .int (spt), .int (hre), .int (tok), .int (val), .ref mc, .ref ml, .ref mn, .int (nI se), .ref mk, .ref mg, .ref mh, .ref mq, .int (tn)])), (ma, .inl (E.2.1 1, 172, .inl (f))), (mn, .inl (E.2.1 1, 16, .inl (sq)))] 0 0 (Rt (some (.int (if ¬ wh < 0 ∧ ¬ 1 < wh then (if (akM (fiP rl th f sq se) (2 ^ nt) nt).2 = -4 then (akM (fiP rl th f sq se) (2 ^ nt) nt).2 else if wh = 0 then (akM (fiP rl th f sq se) (2 ^ nt) nt).2 else nI (akM (fiP rl th f sq se) (2 ^ nt) nt).1) else -1))) [(m0, .inr (5, [.ref ma, .int (nI nt), .int (nI pp), .int (th), .ref mp, .int (rn), .int (ro), .int (to), .int (wt), .int (hn), .int (ho), .ref mt, .int (nI tl), .int (fa), .int (bk), .int (ba), .int (spt), .int (hre), .int (tok), .int (val), .ref mc, .ref ml, .ref mn, .int (nI se), .ref mk, .ref mg, .ref mh, .ref mq, .int (tn)])), (ma, .inl (E.2.1 1, 172, .inl (f))), (mn, .inl (E.2.1 1, 16, .inl (sq)))]) 0 0 70 [(7, .int (nI j)), (6, .int (nI y)), (5, .int (nI k)), (3, .int (nI fe)), (4, .int (wc)), (2, .int (nI now)), (0, .ref m0), (1, .int (wh))] [] [(m0, .inr (5, [.ref ma, .int (nI nt), .int (nI pp), .int (th), .ref mp, .int (rn), .int (ro), .int (to), .int (wt), .int (hn), .int (ho), .ref mt, .int (nI tl), .int (fa), .int (bk), .int (ba), .int (spt), .int (hre), .int (tok), .int (val), .ref mc, .ref ml, .ref mn, .int (nI se), .ref mk, .ref mg, .ref mh, .ref mq, .int (tn)])), (ma, .inl (E.2.1 1, 172, .inl (f))), (mn, .inl (E.2.1 1, 16, .inl (sq)))] := by
                  intro D_70
                  induction D_70 with
                  | zero => intro j y h; exact absurd h (Nat.not_lt_zero _)
                  | succ D_70 ih_70 =>
                    intro j y hmu_70 h_70_0 h_70_1
                    refine v_iload (pc := 70) 0 dX5_ask_70 rfl ?_
                    refine v_aload_n (pc := 72) 6 dX5_ask_72 rfl rfl ?_
                    refine v_callV (pc := 73) (rest := [.int (nI j)]) [0] 0 lk_1024 (c_X5_sets l E m0 ma mp mt mc ml mn mk mg mh mq nt pp tl se th rn ro to wt hn ho fa bk ba spt hre tok val tn (by first | assumption | omega)) dX5_ask_73 rfl rfl (Nat.le_of_ble_eq_true rfl) (by decide) rfl rfl rfl (by decide) rfl (Rt.len rfl) (Rt.go ?_)
                    refine v_w (ws' := [(m0, .inr (5, [.ref ma, .int (nI nt), .int (nI pp), .int (th), .ref mp, .int (rn), .int (ro), .int (to), .int (wt), .int (hn), .int (ho), .ref mt, .int (nI tl), .int (fa), .int (bk), .int (ba), .int (spt), .int (hre), .int (tok), .int (val), .ref mc, .ref ml, .ref mn, .int (nI se), .ref mk, .ref mg, .ref mh, .ref mq, .int (tn)])), (ma, .inl (E.2.1 1, 172, .inl (f))), (mn, .inl (E.2.1 1, 16, .inl (sq)))]) rfl ?_
                    refine v_st (st' := [.int (nI (2 ^ nt)), .int (nI j)]) rfl ?_
                    refine v_cmpN_ge (pc := 76) (a := j) (b := 2 ^ nt) 115 dX5_ask_76 (by decide) (by omega) (by omega) (fun c_76 => ?_) (fun c_76 => ?_)
                    · skip
                      have hy : y = yesM (fiP rl th f sq se) k (2 ^ nt) := by obtain rfl : j = 2 ^ nt := (by omega); exact h_70_1
                      have hyn : y ≤ now := by rw [hy, hnow]; exact yesM_le _ _ _
                      have hws : wstM (fiP rl th f sq se) k (2 ^ nt) ≤ 64 := by unfold wstM; rw [← hy, ← hnow]; split <;> omega
                      refine v_iload (pc := 115) 1 dX5_ask_115 rfl ?_
                      refine v_iload_n (pc := 117) 5 dX5_ask_117 rfl rfl ?_
                      refine v_iload (pc := 118) 1 dX5_ask_118 rfl ?_
                      refine v_isub (pc := 120) dX5_ask_120 ?_
                      refine v_st (st' := [.int (nI (now - y)), .int (nI y)]) (by rw [pk_sub hyn]) ?_
                      suffices J_121 : V l E RX5 cX5_ask 8 (Option.some FieldType.int) "ask" ({ frames := 4, cells := 0, slots := 0, locals := 91 }) [(m0, .inr (5, [.ref ma, .int (nI nt), .int (nI pp), .int (th), .ref mp, .int (rn), .int (ro), .int (to), .int (wt), .int (hn), .int (ho), .ref mt, .int (nI tl), .int (fa), .int (bk), .int (ba), .int (spt), .int (hre), .int (tok), .int (val), .ref mc, .ref ml, .ref mn, .int (nI se), .ref mk, .ref mg, .ref mh, .ref mq, .int (tn)])), (ma, .inl (E.2.1 1, 172, .inl (f))), (mn, .inl (E.2.1 1, 16, .inl (sq)))] 0 0 (Rt (some (.int (if ¬ wh < 0 ∧ ¬ 1 < wh then (if (akM (fiP rl th f sq se) (2 ^ nt) nt).2 = -4 then (akM (fiP rl th f sq se) (2 ^ nt) nt).2 else if wh = 0 then (akM (fiP rl th f sq se) (2 ^ nt) nt).2 else nI (akM (fiP rl th f sq se) (2 ^ nt) nt).1) else -1))) [(m0, .inr (5, [.ref ma, .int (nI nt), .int (nI pp), .int (th), .ref mp, .int (rn), .int (ro), .int (to), .int (wt), .int (hn), .int (ho), .ref mt, .int (nI tl), .int (fa), .int (bk), .int (ba), .int (spt), .int (hre), .int (tok), .int (val), .ref mc, .ref ml, .ref mn, .int (nI se), .ref mk, .ref mg, .ref mh, .ref mq, .int (tn)])), (ma, .inl (E.2.1 1, 172, .inl (f))), (mn, .inl (E.2.1 1, 16, .inl (sq)))]) 0 0 133 [(7, .int (nI j)), (6, .int (nI y)), (5, .int (nI k)), (3, .int (nI fe)), (4, .int (wc)), (2, .int (nI now)), (0, .ref m0), (1, .int (wh))] [.int (if y ≤ (now - y) then (nI now) - (nI y) else nI y)] [(m0, .inr (5, [.ref ma, .int (nI nt), .int (nI pp), .int (th), .ref mp, .int (rn), .int (ro), .int (to), .int (wt), .int (hn), .int (ho), .ref mt, .int (nI tl), .int (fa), .int (bk), .int (ba), .int (spt), .int (hre), .int (tok), .int (val), .ref mc, .ref ml, .ref mn, .int (nI se), .ref mk, .ref mg, .ref mh, .ref mq, .int (tn)])), (ma, .inl (E.2.1 1, 172, .inl (f))), (mn, .inl (E.2.1 1, 16, .inl (sq)))] by
                        refine v_cmpN_le (pc := 121) (a := y) (b := now - y) 129 dX5_ask_121 (by decide) (by omega) (by omega) (fun c_121 => ?_) (fun c_121 => ?_)
                        · skip
                          refine v_iload_n (pc := 129) 5 dX5_ask_129 rfl rfl ?_
                          refine v_iload (pc := 130) 1 dX5_ask_130 rfl ?_
                          refine v_isub (pc := 132) dX5_ask_132 ?_
                          refine v_st ?_ J_121
                          rw [if_pos (show y ≤ (now - y) from c_121)]
                        · skip
                          refine v_iload (pc := 124) 1 dX5_ask_124 rfl ?_
                          refine v_goto (pc := 126) 133 dX5_ask_126 (by decide) ?_
                          refine v_st ?_ J_121
                          rw [if_neg (show ¬ (y ≤ (now - y)) from (by first | exact c_121 | omega | exact fun q => q c_121))]
                      refine v_st (st' := [.int (nI (wstM (fiP rl th f sq se) k (2 ^ nt)))]) (by rw [show (nI now - nI y) = nI (now - y) from pk_sub hyn]; unfold wstM; rw [← hy, ← hnow, wst_eq]) ?_
                      refine v_istore (pc := 133) (lv' := [(7, .int (nI (wstM (fiP rl th f sq se) k (2 ^ nt)))), (6, .int (nI y)), (5, .int (nI k)), (3, .int (nI fe)), (4, .int (wc)), (2, .int (nI now)), (0, .ref m0), (1, .int (wh))]) dX5_ask_133 (by decide) rfl ?_
                      refine v_iload (pc := 135) 0 dX5_ask_135 rfl ?_
                      refine v_iload_n (pc := 137) 3 dX5_ask_137 rfl rfl ?_
                      suffices J_138 : V l E RX5 cX5_ask 8 (Option.some FieldType.int) "ask" ({ frames := 4, cells := 0, slots := 0, locals := 91 }) [(m0, .inr (5, [.ref ma, .int (nI nt), .int (nI pp), .int (th), .ref mp, .int (rn), .int (ro), .int (to), .int (wt), .int (hn), .int (ho), .ref mt, .int (nI tl), .int (fa), .int (bk), .int (ba), .int (spt), .int (hre), .int (tok), .int (val), .ref mc, .ref ml, .ref mn, .int (nI se), .ref mk, .ref mg, .ref mh, .ref mq, .int (tn)])), (ma, .inl (E.2.1 1, 172, .inl (f))), (mn, .inl (E.2.1 1, 16, .inl (sq)))] 0 0 (Rt (some (.int (if ¬ wh < 0 ∧ ¬ 1 < wh then (if (akM (fiP rl th f sq se) (2 ^ nt) nt).2 = -4 then (akM (fiP rl th f sq se) (2 ^ nt) nt).2 else if wh = 0 then (akM (fiP rl th f sq se) (2 ^ nt) nt).2 else nI (akM (fiP rl th f sq se) (2 ^ nt) nt).1) else -1))) [(m0, .inr (5, [.ref ma, .int (nI nt), .int (nI pp), .int (th), .ref mp, .int (rn), .int (ro), .int (to), .int (wt), .int (hn), .int (ho), .ref mt, .int (nI tl), .int (fa), .int (bk), .int (ba), .int (spt), .int (hre), .int (tok), .int (val), .ref mc, .ref ml, .ref mn, .int (nI se), .ref mk, .ref mg, .ref mh, .ref mq, .int (tn)])), (ma, .inl (E.2.1 1, 172, .inl (f))), (mn, .inl (E.2.1 1, 16, .inl (sq)))]) 0 0 148 [(7, .int (nI (wstM (fiP rl th f sq se) k (2 ^ nt)))), (6, .int (nI y)), (5, .int (nI k)), (3, .int (nI fe)), (4, .int (wc)), (2, .int (nI now)), (0, .ref m0), (1, .int (wh))] [.int (if fe ≤ (wstM (fiP rl th f sq se) k (2 ^ nt)) then wc else nI k)] [(m0, .inr (5, [.ref ma, .int (nI nt), .int (nI pp), .int (th), .ref mp, .int (rn), .int (ro), .int (to), .int (wt), .int (hn), .int (ho), .ref mt, .int (nI tl), .int (fa), .int (bk), .int (ba), .int (spt), .int (hre), .int (tok), .int (val), .ref mc, .ref ml, .ref mn, .int (nI se), .ref mk, .ref mg, .ref mh, .ref mq, .int (tn)])), (ma, .inl (E.2.1 1, 172, .inl (f))), (mn, .inl (E.2.1 1, 16, .inl (sq)))] by
                        refine v_cmpN_ge (pc := 138) (a := wstM (fiP rl th f sq se) k (2 ^ nt)) (b := fe) 146 dX5_ask_138 (by decide) (by omega) (by omega) (fun c_138 => ?_) (fun c_138 => ?_)
                        · skip
                          refine v_iload (pc := 146) 4 dX5_ask_146 rfl ?_
                          refine v_st ?_ J_138
                          rw [if_pos (show fe ≤ (wstM (fiP rl th f sq se) k (2 ^ nt)) from c_138)]
                        · skip
                          refine v_iload (pc := 141) 2 dX5_ask_141 rfl ?_
                          refine v_goto (pc := 143) 148 dX5_ask_143 (by decide) ?_
                          refine v_st ?_ J_138
                          rw [if_neg (show ¬ (fe ≤ (wstM (fiP rl th f sq se) k (2 ^ nt))) from (by first | exact c_138 | omega | exact fun q => q c_138))]
                      refine v_istore (pc := 148) (lv' := [(4, .int (if fe ≤ (wstM (fiP rl th f sq se) k (2 ^ nt)) then wc else nI k)), (7, .int (nI (wstM (fiP rl th f sq se) k (2 ^ nt)))), (6, .int (nI y)), (5, .int (nI k)), (3, .int (nI fe)), (2, .int (nI now)), (0, .ref m0), (1, .int (wh))]) dX5_ask_148 (by decide) rfl ?_
                      refine v_iload (pc := 150) 1 dX5_ask_150 rfl ?_
                      refine v_iload_n (pc := 152) 4 dX5_ask_152 rfl rfl ?_
                      suffices J_153 : V l E RX5 cX5_ask 8 (Option.some FieldType.int) "ask" ({ frames := 4, cells := 0, slots := 0, locals := 91 }) [(m0, .inr (5, [.ref ma, .int (nI nt), .int (nI pp), .int (th), .ref mp, .int (rn), .int (ro), .int (to), .int (wt), .int (hn), .int (ho), .ref mt, .int (nI tl), .int (fa), .int (bk), .int (ba), .int (spt), .int (hre), .int (tok), .int (val), .ref mc, .ref ml, .ref mn, .int (nI se), .ref mk, .ref mg, .ref mh, .ref mq, .int (tn)])), (ma, .inl (E.2.1 1, 172, .inl (f))), (mn, .inl (E.2.1 1, 16, .inl (sq)))] 0 0 (Rt (some (.int (if ¬ wh < 0 ∧ ¬ 1 < wh then (if (akM (fiP rl th f sq se) (2 ^ nt) nt).2 = -4 then (akM (fiP rl th f sq se) (2 ^ nt) nt).2 else if wh = 0 then (akM (fiP rl th f sq se) (2 ^ nt) nt).2 else nI (akM (fiP rl th f sq se) (2 ^ nt) nt).1) else -1))) [(m0, .inr (5, [.ref ma, .int (nI nt), .int (nI pp), .int (th), .ref mp, .int (rn), .int (ro), .int (to), .int (wt), .int (hn), .int (ho), .ref mt, .int (nI tl), .int (fa), .int (bk), .int (ba), .int (spt), .int (hre), .int (tok), .int (val), .ref mc, .ref ml, .ref mn, .int (nI se), .ref mk, .ref mg, .ref mh, .ref mq, .int (tn)])), (ma, .inl (E.2.1 1, 172, .inl (f))), (mn, .inl (E.2.1 1, 16, .inl (sq)))]) 0 0 162 [(4, .int (if fe ≤ (wstM (fiP rl th f sq se) k (2 ^ nt)) then wc else nI k)), (7, .int (nI (wstM (fiP rl th f sq se) k (2 ^ nt)))), (6, .int (nI y)), (5, .int (nI k)), (3, .int (nI fe)), (2, .int (nI now)), (0, .ref m0), (1, .int (wh))] [.int (if fe ≤ (wstM (fiP rl th f sq se) k (2 ^ nt)) then nI fe else nI (wstM (fiP rl th f sq se) k (2 ^ nt)))] [(m0, .inr (5, [.ref ma, .int (nI nt), .int (nI pp), .int (th), .ref mp, .int (rn), .int (ro), .int (to), .int (wt), .int (hn), .int (ho), .ref mt, .int (nI tl), .int (fa), .int (bk), .int (ba), .int (spt), .int (hre), .int (tok), .int (val), .ref mc, .ref ml, .ref mn, .int (nI se), .ref mk, .ref mg, .ref mh, .ref mq, .int (tn)])), (ma, .inl (E.2.1 1, 172, .inl (f))), (mn, .inl (E.2.1 1, 16, .inl (sq)))] by
                        refine v_cmpN_ge (pc := 153) (a := wstM (fiP rl th f sq se) k (2 ^ nt)) (b := fe) 161 dX5_ask_153 (by decide) (by omega) (by omega) (fun c_153 => ?_) (fun c_153 => ?_)
                        · skip
                          refine v_iload_n (pc := 161) 4 dX5_ask_161 rfl rfl ?_
                          refine v_st ?_ J_153
                          rw [if_pos (show fe ≤ (wstM (fiP rl th f sq se) k (2 ^ nt)) from c_153)]
                        · skip
                          refine v_iload (pc := 156) 1 dX5_ask_156 rfl ?_
                          refine v_goto (pc := 158) 162 dX5_ask_158 (by decide) ?_
                          refine v_st ?_ J_153
                          rw [if_neg (show ¬ (fe ≤ (wstM (fiP rl th f sq se) k (2 ^ nt))) from (by first | exact c_153 | omega | exact fun q => q c_153))]
                      refine v_st (st' := [.int (nI (if fe ≤ wstM (fiP rl th f sq se) k (2 ^ nt) then fe else wstM (fiP rl th f sq se) k (2 ^ nt)))]) (by split <;> rfl) ?_
                      refine v_istore_n (pc := 162) (lv' := [(3, .int (nI (if fe ≤ wstM (fiP rl th f sq se) k (2 ^ nt) then fe else wstM (fiP rl th f sq se) k (2 ^ nt)))), (4, .int (if fe ≤ (wstM (fiP rl th f sq se) k (2 ^ nt)) then wc else nI k)), (7, .int (nI (wstM (fiP rl th f sq se) k (2 ^ nt)))), (6, .int (nI y)), (5, .int (nI k)), (2, .int (nI now)), (0, .ref m0), (1, .int (wh))]) dX5_ask_162 rfl (by decide) rfl ?_
                      refine v_iinc (pc := 163) (v := nI (k + 1)) (lv' := [(5, .int (nI (k + 1))), (3, .int (nI (if fe ≤ wstM (fiP rl th f sq se) k (2 ^ nt) then fe else wstM (fiP rl th f sq se) k (2 ^ nt)))), (4, .int (if fe ≤ (wstM (fiP rl th f sq se) k (2 ^ nt)) then wc else nI k)), (7, .int (nI (wstM (fiP rl th f sq se) k (2 ^ nt)))), (6, .int (nI y)), (2, .int (nI now)), (0, .ref m0), (1, .int (wh))]) 4 dX5_ask_163 rfl (nI_inc (k) 1) (by decide) rfl ?_
                      refine v_goto (pc := 166) 55 dX5_ask_166 (by decide) ?_
                      refine v_lv (lv' := [(5, .int (nI (k + 1))), (3, .int (nI (if fe ≤ wstM (fiP rl th f sq se) k (2 ^ nt) then fe else wstM (fiP rl th f sq se) k (2 ^ nt)))), (4, .int (if fe ≤ (wstM (fiP rl th f sq se) k (2 ^ nt)) then wc else nI k)), (2, .int (nI now)), (0, .ref m0), (1, .int (wh))]) [0, 1, 2, 5, 6, 7] rfl ?_
                      refine ih_55 (k + 1) (if fe ≤ wstM (fiP rl th f sq se) k (2 ^ nt) then fe else wstM (fiP rl th f sq se) k (2 ^ nt)) (if fe ≤ (wstM (fiP rl th f sq se) k (2 ^ nt)) then wc else nI k) (by omega) ?_ ?_ ?_
                      · omega
                      · split <;> omega
                      · simp only [akM]; rw [← h_55_2]; by_cases q : wstM (fiP rl th f sq se) k (2 ^ nt) < fe
                        · have q2 : ¬ fe ≤ wstM (fiP rl th f sq se) k (2 ^ nt) := by omega
                          simp [q, q2]
                        · have q2 : fe ≤ wstM (fiP rl th f sq se) k (2 ^ nt) := by omega
                          simp [q, q2]
                    · skip
                      refine v_iload (pc := 79) 1 dX5_ask_79 rfl ?_
                      refine v_iload (pc := 81) 0 dX5_ask_81 rfl ?_
                      refine v_iload (pc := 83) 2 dX5_ask_83 rfl ?_
                      refine v_ishr (pc := 85) dX5_ask_85 ?_
                      refine v_iconst (pc := 86) (v := 1) dX5_ask_86 (by decide) ?_
                      refine v_iand (pc := 87) dX5_ask_87 ?_
                      refine v_iconst (pc := 88) (v := 1) dX5_ask_88 (by decide) ?_
                      refine v_icmp_ne (pc := 89) 105 dX5_ask_89 (by decide) (fun c_89 => ?_) (fun c_89 => ?_)
                      · skip
                        refine v_iconst (pc := 105) (v := 0) dX5_ask_105 (by decide) ?_
                        refine v_iadd (pc := 106) dX5_ask_106 ?_
                        refine v_st (st' := [.int (nI (y + 0))]) (congrArg (fun z => Value.int z :: _) (nI_add y 0)) ?_
                        refine v_istore (pc := 107) (lv' := [(6, .int (nI (y + 0))), (7, .int (nI j)), (5, .int (nI k)), (3, .int (nI fe)), (4, .int (wc)), (2, .int (nI now)), (0, .ref m0), (1, .int (wh))]) dX5_ask_107 (by decide) rfl ?_
                        refine v_iinc (pc := 109) (v := nI (j + 1)) (lv' := [(7, .int (nI (j + 1))), (6, .int (nI (y + 0))), (5, .int (nI k)), (3, .int (nI fe)), (4, .int (wc)), (2, .int (nI now)), (0, .ref m0), (1, .int (wh))]) 1 dX5_ask_109 rfl (nI_inc (j) 1) (by decide) rfl ?_
                        refine v_goto (pc := 112) 70 dX5_ask_112 (by decide) ?_
                        refine v_lv (lv' := [(7, .int (nI (j + 1))), (6, .int (nI (y + 0))), (5, .int (nI k)), (3, .int (nI fe)), (4, .int (wc)), (2, .int (nI now)), (0, .ref m0), (1, .int (wh))]) [0, 1, 2, 3, 4, 5, 6, 7] rfl ?_
                        refine ih_70 (j + 1) (y + 0) (by omega) ?_ ?_
                        · omega
                        · rw [h_70_1]; unfold yesM; simp only [cntM, Bool.and_eq_true, decide_eq_true_eq]; rw [if_neg (fun q => c_89 q.1)]
                      · skip
                        refine v_aload_n (pc := 92) 6 dX5_ask_92 rfl rfl ?_
                        refine v_iload (pc := 93) 0 dX5_ask_93 rfl ?_
                        refine v_callV (pc := 95) (rest := [.int (nI y)]) [0, 1, 2] 0 lk_1162 (c_X5_isFit l E m0 ma mp mt mc ml mn mk mg mh mq nt pp rl tl se th rn ro to wt hn ho fa bk ba spt hre tok val tn f sq (nI j) (by first | assumption | omega) (by first | assumption | omega) (by first | assumption | omega)) dX5_ask_95 rfl rfl (Nat.le_of_ble_eq_true rfl) (by decide) rfl rfl rfl (by decide) rfl (Rt.len rfl) (Rt.go ?_)
                        refine v_w (ws' := [(m0, .inr (5, [.ref ma, .int (nI nt), .int (nI pp), .int (th), .ref mp, .int (rn), .int (ro), .int (to), .int (wt), .int (hn), .int (ho), .ref mt, .int (nI tl), .int (fa), .int (bk), .int (ba), .int (spt), .int (hre), .int (tok), .int (val), .ref mc, .ref ml, .ref mn, .int (nI se), .ref mk, .ref mg, .ref mh, .ref mq, .int (tn)])), (ma, .inl (E.2.1 1, 172, .inl (f))), (mn, .inl (E.2.1 1, 16, .inl (sq)))]) rfl ?_
                        refine v_st (st' := [.int (if ftM sq (nI j) (decide (outM rl th f (nI j) = (nI j))) se = true then 1 else 0), .int (nI y)]) rfl ?_
                        refine v_st (st' := [.int (if fiP rl th f sq se j = true then 1 else 0), .int (nI y)]) rfl ?_
                        refine v_ifB_eq (pc := 98) 105 dX5_ask_98 (by decide) (fun c_98 => ?_) (fun c_98 => ?_)
                        · skip
                          refine v_iconst (pc := 105) (v := 0) dX5_ask_105 (by decide) ?_
                          refine v_iadd (pc := 106) dX5_ask_106 ?_
                          refine v_st (st' := [.int (nI (y + 0))]) (congrArg (fun z => Value.int z :: _) (nI_add y 0)) ?_
                          refine v_istore (pc := 107) (lv' := [(6, .int (nI (y + 0))), (7, .int (nI j)), (5, .int (nI k)), (3, .int (nI fe)), (4, .int (wc)), (2, .int (nI now)), (0, .ref m0), (1, .int (wh))]) dX5_ask_107 (by decide) rfl ?_
                          refine v_iinc (pc := 109) (v := nI (j + 1)) (lv' := [(7, .int (nI (j + 1))), (6, .int (nI (y + 0))), (5, .int (nI k)), (3, .int (nI fe)), (4, .int (wc)), (2, .int (nI now)), (0, .ref m0), (1, .int (wh))]) 1 dX5_ask_109 rfl (nI_inc (j) 1) (by decide) rfl ?_
                          refine v_goto (pc := 112) 70 dX5_ask_112 (by decide) ?_
                          refine v_lv (lv' := [(7, .int (nI (j + 1))), (6, .int (nI (y + 0))), (5, .int (nI k)), (3, .int (nI fe)), (4, .int (wc)), (2, .int (nI now)), (0, .ref m0), (1, .int (wh))]) [0, 1, 2, 3, 4, 5, 6, 7] rfl ?_
                          refine ih_70 (j + 1) (y + 0) (by omega) ?_ ?_
                          · omega
                          · rw [h_70_1]; unfold yesM; simp only [cntM, Bool.and_eq_true, decide_eq_true_eq]; rw [if_neg (fun q => c_98 q.2)]
                        · skip
                          refine v_iconst (pc := 101) (v := 1) dX5_ask_101 (by decide) ?_
                          refine v_goto (pc := 102) 106 dX5_ask_102 (by decide) ?_
                          refine v_iadd (pc := 106) dX5_ask_106 ?_
                          refine v_st (st' := [.int (nI (y + 1))]) (congrArg (fun z => Value.int z :: _) (nI_add y 1)) ?_
                          refine v_istore (pc := 107) (lv' := [(6, .int (nI (y + 1))), (7, .int (nI j)), (5, .int (nI k)), (3, .int (nI fe)), (4, .int (wc)), (2, .int (nI now)), (0, .ref m0), (1, .int (wh))]) dX5_ask_107 (by decide) rfl ?_
                          refine v_iinc (pc := 109) (v := nI (j + 1)) (lv' := [(7, .int (nI (j + 1))), (6, .int (nI (y + 1))), (5, .int (nI k)), (3, .int (nI fe)), (4, .int (wc)), (2, .int (nI now)), (0, .ref m0), (1, .int (wh))]) 1 dX5_ask_109 rfl (nI_inc (j) 1) (by decide) rfl ?_
                          refine v_goto (pc := 112) 70 dX5_ask_112 (by decide) ?_
                          refine v_lv (lv' := [(7, .int (nI (j + 1))), (6, .int (nI (y + 1))), (5, .int (nI k)), (3, .int (nI fe)), (4, .int (wc)), (2, .int (nI now)), (0, .ref m0), (1, .int (wh))]) [0, 1, 2, 3, 4, 5, 6, 7] rfl ?_
                          refine ih_70 (j + 1) (y + 1) (by omega) ?_ ?_
                          · omega
                          · rw [h_70_1]; unfold yesM; simp only [cntM, Bool.and_eq_true, decide_eq_true_eq]; rw [if_pos ⟨c_89, c_98⟩]
                refine v_lv (lv' := [(7, .int (nI 0)), (6, .int (nI 0)), (5, .int (nI k)), (3, .int (nI fe)), (4, .int (wc)), (2, .int (nI now)), (0, .ref m0), (1, .int (wh))]) [0, 1, 2, 3, 4, 5, 6, 7] rfl ?_
                refine loop_70 ((2 ^ nt - 0) + 1) 0 0 (Nat.lt_succ_self _) ?_ ?_
                · omega
                · rfl
          refine v_lv (lv' := [(5, .int (nI 0)), (3, .int (nI now)), (4, .int (-4)), (2, .int (nI now)), (0, .ref m0), (1, .int (wh))]) [0, 2, 1, 3, 4, 5] rfl ?_
          refine loop_55 ((nt - 0) + 1) 0 now (-4) (Nat.lt_succ_self _) ?_ ?_ ?_
          · omega
          · omega
          · rw [hnow]; rfl
        · skip
          refine v_iload_n (pc := 24) 1 dX5_ask_24 rfl rfl ?_
          refine v_aload_n (pc := 25) 2 dX5_ask_25 rfl rfl ?_
          refine v_iload_n (pc := 26) 0 dX5_ask_26 rfl rfl ?_
          refine v_callV (pc := 27) (rest := [.int (nI now)]) [0, 1, 2] 0 lk_1162 (c_X5_isFit l E m0 ma mp mt mc ml mn mk mg mh mq nt pp rl tl se th rn ro to wt hn ho fa bk ba spt hre tok val tn f sq (nI i) (by first | assumption | omega) (by first | assumption | omega) (by first | assumption | omega)) dX5_ask_27 rfl rfl (Nat.le_of_ble_eq_true rfl) (by decide) rfl rfl rfl (by decide) rfl (Rt.len rfl) (Rt.go ?_)
          refine v_w (ws' := [(m0, .inr (5, [.ref ma, .int (nI nt), .int (nI pp), .int (th), .ref mp, .int (rn), .int (ro), .int (to), .int (wt), .int (hn), .int (ho), .ref mt, .int (nI tl), .int (fa), .int (bk), .int (ba), .int (spt), .int (hre), .int (tok), .int (val), .ref mc, .ref ml, .ref mn, .int (nI se), .ref mk, .ref mg, .ref mh, .ref mq, .int (tn)])), (ma, .inl (E.2.1 1, 172, .inl (f))), (mn, .inl (E.2.1 1, 16, .inl (sq)))]) rfl ?_
          refine v_st (st' := [.int (if ftM sq (nI i) (decide (outM rl th f (nI i) = (nI i))) se = true then 1 else 0), .int (nI now)]) rfl ?_
          refine v_st (st' := [.int (if fiP rl th f sq se i = true then 1 else 0), .int (nI now)]) rfl ?_
          refine v_ifB_eq (pc := 30) 37 dX5_ask_30 (by decide) (fun c_30 => ?_) (fun c_30 => ?_)
          · skip
            refine v_iconst (pc := 37) (v := 0) dX5_ask_37 (by decide) ?_
            refine v_iadd (pc := 38) dX5_ask_38 ?_
            refine v_st (st' := [.int (nI (now + 0))]) (congrArg (fun z => Value.int z :: _) (nI_add now 0)) ?_
            refine v_istore_n (pc := 39) (lv' := [(2, .int (nI (now + 0))), (3, .int (nI i)), (0, .ref m0), (1, .int (wh))]) dX5_ask_39 rfl (by decide) rfl ?_
            refine v_iinc (pc := 40) (v := nI (i + 1)) (lv' := [(3, .int (nI (i + 1))), (2, .int (nI (now + 0))), (0, .ref m0), (1, .int (wh))]) 1 dX5_ask_40 rfl (nI_inc (i) 1) (by decide) rfl ?_
            refine v_goto (pc := 43) 16 dX5_ask_43 (by decide) ?_
            refine v_lv (lv' := [(3, .int (nI (i + 1))), (2, .int (nI (now + 0))), (0, .ref m0), (1, .int (wh))]) [0, 1, 2, 3] rfl ?_
            refine ih_16 (i + 1) (now + 0) (by omega) ?_ ?_
            · omega
            · simp only [cntM]; rw [← h_16_1, if_neg c_30]
          · skip
            refine v_iconst (pc := 33) (v := 1) dX5_ask_33 (by decide) ?_
            refine v_goto (pc := 34) 38 dX5_ask_34 (by decide) ?_
            refine v_iadd (pc := 38) dX5_ask_38 ?_
            refine v_st (st' := [.int (nI (now + 1))]) (congrArg (fun z => Value.int z :: _) (nI_add now 1)) ?_
            refine v_istore_n (pc := 39) (lv' := [(2, .int (nI (now + 1))), (3, .int (nI i)), (0, .ref m0), (1, .int (wh))]) dX5_ask_39 rfl (by decide) rfl ?_
            refine v_iinc (pc := 40) (v := nI (i + 1)) (lv' := [(3, .int (nI (i + 1))), (2, .int (nI (now + 1))), (0, .ref m0), (1, .int (wh))]) 1 dX5_ask_40 rfl (nI_inc (i) 1) (by decide) rfl ?_
            refine v_goto (pc := 43) 16 dX5_ask_43 (by decide) ?_
            refine v_lv (lv' := [(3, .int (nI (i + 1))), (2, .int (nI (now + 1))), (0, .ref m0), (1, .int (wh))]) [0, 1, 2, 3] rfl ?_
            refine ih_16 (i + 1) (now + 1) (by omega) ?_ ?_
            · omega
            · simp only [cntM]; rw [← h_16_1, if_pos c_30]
    refine v_lv (lv' := [(3, .int (nI 0)), (2, .int (nI 0)), (0, .ref m0), (1, .int (wh))]) [0, 1, 2, 3] rfl ?_
    refine loop_16 ((2 ^ nt - 0) + 1) 0 0 (Nat.lt_succ_self _) ?_ ?_
    · omega
    · rfl
  · skip
    refine v_iconst (pc := 10) (v := -1) dX5_ask_10 (by decide) ?_
    refine v_iret (pc := 11) dX5_ask_11 rfl ⟨rfl, rfl⟩ (Rt.i ?_)
    rw [if_neg c_7]
theorem c_X5_drift (l : Launch) (E : VE) (m0 : Nat) (ma : Nat) (mp : Nat) (mt : Nat) (mc : Nat) (ml : Nat) (mn : Nat) (mk : Nat) (mg : Nat) (mh : Nat) (mq : Nat) (nt : Nat) (pp : Nat) (rl : Nat) (tl : Nat) (se : Nat) (th : Int32) (rn : Int32) (ro : Int32) (to : Int32) (wt : Int32) (hn : Int32) (ho : Int32) (fa : Int32) (bk : Int32) (ba : Int32) (spt : Int32) (hre : Int32) (tok : Int32) (val : Int32) (tn : Int32) (f : Nat → Int32) (sd : Int32) (n : Int32) (wh : Int32) (h_rl : rl ≤ 8) (h_38 : f 38 = nI rl) (h_nt : nt ≤ 6) (h_n1 : 1 ≤ nt) : Ct l E yX5_drift cX5_drift 8 (Option.some FieldType.int) 3 68 0 0 [.ref m0, .int (sd), .int (n), .int (wh)] [(m0, .inr (5, [.ref ma, .int (nI nt), .int (nI pp), .int (th), .ref mp, .int (rn), .int (ro), .int (to), .int (wt), .int (hn), .int (ho), .ref mt, .int (nI tl), .int (fa), .int (bk), .int (ba), .int (spt), .int (hre), .int (tok), .int (val), .ref mc, .ref ml, .ref mn, .int (nI se), .ref mk, .ref mg, .ref mh, .ref mq, .int (tn)])), (ma, .inl (E.2.1 1, 172, .inl (f)))] (Rt (some (.int (if ¬ n < 1 ∧ ¬ 60 < n then (if ¬ wh < 0 ∧ ¬ 1 < wh then (if wh = 0 then (drK (outM rl th f) nt sd (f 41) n.toNatClampNeg).2.1 else nI (drK (outM rl th f) nt sd (f 41) n.toNatClampNeg).2.2) else -1) else -1))) [(m0, .inr (5, [.ref ma, .int (nI nt), .int (nI pp), .int (th), .ref mp, .int (rn), .int (ro), .int (to), .int (wt), .int (hn), .int (ho), .ref mt, .int (nI tl), .int (fa), .int (bk), .int (ba), .int (spt), .int (hre), .int (tok), .int (val), .ref mc, .ref ml, .ref mn, .int (nI se), .ref mk, .ref mg, .ref mh, .ref mq, .int (tn)])), (ma, .inl (E.2.1 1, 172, .inl (f)))]) := by
  refine Ct.of (own := RX5) (nm := "drift") (lv := [(0, .ref m0), (1, .int (sd)), (2, .int (n)), (3, .int (wh))]) (by decide) rfl rfl (Nat.le_of_ble_eq_true rfl) rfl ?_
  refine v_iload_n (pc := 0) 2 dX5_drift_0 rfl rfl ?_
  refine v_i2l (pc := 1) dX5_drift_1 ?_
  refine v_lconst (pc := 2) (v := 1) dX5_drift_2 (by decide) ?_
  refine v_ldc2 (pc := 3) dX5_drift_3 tb_1040 ?_
  refine v_callS (pc := 6) (rest := []) [] lk_880 (c_X5_in l E (Int32.toInt64 (n)) 1 60) dX5_drift_6 rfl rfl (Nat.le_of_ble_eq_true rfl) (by decide) (by decide) rfl (Rt.len rfl) (Rt.go ?_)
  refine v_w (ws' := [(m0, .inr (5, [.ref ma, .int (nI nt), .int (nI pp), .int (th), .ref mp, .int (rn), .int (ro), .int (to), .int (wt), .int (hn), .int (ho), .ref mt, .int (nI tl), .int (fa), .int (bk), .int (ba), .int (spt), .int (hre), .int (tok), .int (val), .ref mc, .ref ml, .ref mn, .int (nI se), .ref mk, .ref mg, .ref mh, .ref mq, .int (tn)])), (ma, .inl (E.2.1 1, 172, .inl (f)))]) rfl ?_
  refine v_st (st' := [.int (if ¬ (Int32.toInt64 (n)) < 1 ∧ ¬ 60 < (Int32.toInt64 (n)) then 1 else 0)]) rfl ?_
  refine v_st (st' := [.int (if ¬ n < 1 ∧ ¬ 60 < n then 1 else 0)]) (ite_st (inK (a := 1) (b := 60)) _) ?_
  refine v_ifB_eq (pc := 9) 22 dX5_drift_9 (by decide) (fun c_9 => ?_) (fun c_9 => ?_)
  · skip
    refine v_iconst (pc := 22) (v := -1) dX5_drift_22 (by decide) ?_
    refine v_iret (pc := 23) dX5_drift_23 rfl ⟨rfl, rfl⟩ (Rt.i ?_)
    rw [if_neg c_9]
  · skip
    refine v_iload_n (pc := 12) 3 dX5_drift_12 rfl rfl ?_
    refine v_i2l (pc := 13) dX5_drift_13 ?_
    refine v_lconst (pc := 14) (v := 0) dX5_drift_14 (by decide) ?_
    refine v_lconst (pc := 15) (v := 1) dX5_drift_15 (by decide) ?_
    refine v_callS (pc := 16) (rest := []) [] lk_880 (c_X5_in l E (Int32.toInt64 (wh)) 0 1) dX5_drift_16 rfl rfl (Nat.le_of_ble_eq_true rfl) (by decide) (by decide) rfl (Rt.len rfl) (Rt.go ?_)
    refine v_w (ws' := [(m0, .inr (5, [.ref ma, .int (nI nt), .int (nI pp), .int (th), .ref mp, .int (rn), .int (ro), .int (to), .int (wt), .int (hn), .int (ho), .ref mt, .int (nI tl), .int (fa), .int (bk), .int (ba), .int (spt), .int (hre), .int (tok), .int (val), .ref mc, .ref ml, .ref mn, .int (nI se), .ref mk, .ref mg, .ref mh, .ref mq, .int (tn)])), (ma, .inl (E.2.1 1, 172, .inl (f)))]) rfl ?_
    refine v_st (st' := [.int (if ¬ (Int32.toInt64 (wh)) < 0 ∧ ¬ 1 < (Int32.toInt64 (wh)) then 1 else 0)]) rfl ?_
    refine v_st (st' := [.int (if ¬ wh < 0 ∧ ¬ 1 < wh then 1 else 0)]) (ite_st (inK (a := 0) (b := 1)) _) ?_
    refine v_ifB_ne (pc := 19) 24 dX5_drift_19 (by decide) (fun c_19 => ?_) (fun c_19 => ?_)
    · skip
      obtain ⟨m, hm60, rfl⟩ := le_ex (b := 60) (fun z => c_9.1 (Int32.lt_trans z (by decide))) c_9.2 (by decide)
      have hmc : (nI m).toNatClampNeg = m := nI_clamp (by omega)
      refine v_iload_n (pc := 24) 1 dX5_drift_24 rfl rfl ?_
      refine v_istore (pc := 25) (lv' := [(4, .int (sd)), (0, .ref m0), (1, .int (sd)), (2, .int ((nI m))), (3, .int (wh))]) dX5_drift_25 (by decide) rfl ?_
      refine v_aload_n (pc := 27) 1 dX5_drift_27 rfl rfl ?_
      refine gf_787 (pc := 28) 0 dX5_drift_28 rfl rfl ?_
      refine v_bipush (pc := 31) (v := 41) dX5_drift_31 (by decide) ?_
      refine v_ialdN (pc := 33) 1 1 (41) dX5_drift_33 rfl rfl rfl (by decide) (by decide) ?_
      refine v_istore (pc := 34) (lv' := [(5, .int (f 41)), (4, .int (sd)), (0, .ref m0), (1, .int (sd)), (2, .int ((nI m))), (3, .int (wh))]) dX5_drift_34 (by decide) rfl ?_
      refine v_iconst (pc := 36) (v := 0) dX5_drift_36 (by decide) ?_
      refine v_istore (pc := 37) (lv' := [(6, .int (0)), (5, .int (f 41)), (4, .int (sd)), (0, .ref m0), (1, .int (sd)), (2, .int ((nI m))), (3, .int (wh))]) dX5_drift_37 (by decide) rfl ?_
      refine v_iconst (pc := 39) (v := 0) dX5_drift_39 (by decide) ?_
      refine v_istore (pc := 40) (lv' := [(7, .int (0)), (6, .int (0)), (5, .int (f 41)), (4, .int (sd)), (0, .ref m0), (1, .int (sd)), (2, .int ((nI m))), (3, .int (wh))]) dX5_drift_40 (by decide) rfl ?_
      have loop_42 : ∀ (D_42 : Nat) (i : Nat) (s : Int32) (t : Int32) (a : Nat), m - i < D_42 → (i ≤ m) → (a ≤ i) → ((s, t, a) = drK (outM rl th f) nt sd (f 41) i) → V l E RX5 cX5_drift 8 (Option.some FieldType.int) "drift" ({ frames := 3, cells := 0, slots := 0, locals := 68 }) [(m0, .inr (5, [.ref ma, .int (nI nt), .int (nI pp), .int (th), .ref mp, .int (rn), .int (ro), .int (to), .int (wt), .int (hn), .int (ho), .ref mt, .int (nI tl), .int (fa), .int (bk), .int (ba), .int (spt), .int (hre), .int (tok), .int (val), .ref mc, .ref ml, .ref mn, .int (nI se), .ref mk, .ref mg, .ref mh, .ref mq, .int (tn)])), (ma, .inl (E.2.1 1, 172, .inl (f)))] 0 0 (Rt (some (.int (if ¬ (nI m) < 1 ∧ ¬ 60 < (nI m) then (if ¬ wh < 0 ∧ ¬ 1 < wh then (if wh = 0 then (drK (outM rl th f) nt sd (f 41) (nI m).toNatClampNeg).2.1 else nI (drK (outM rl th f) nt sd (f 41) (nI m).toNatClampNeg).2.2) else -1) else -1))) [(m0, .inr (5, [.ref ma, .int (nI nt), .int (nI pp), .int (th), .ref mp, .int (rn), .int (ro), .int (to), .int (wt), .int (hn), .int (ho), .ref mt, .int (nI tl), .int (fa), .int (bk), .int (ba), .int (spt), .int (hre), .int (tok), .int (val), .ref mc, .ref ml, .ref mn, .int (nI se), .ref mk, .ref mg, .ref mh, .ref mq, .int (tn)])), (ma, .inl (E.2.1 1, 172, .inl (f)))]) 0 0 42 [(7, .int (nI i)), (4, .int (s)), (5, .int (t)), (6, .int (nI a)), (0, .ref m0), (1, .int (sd)), (2, .int (nI m)), (3, .int (wh))] [] [(m0, .inr (5, [.ref ma, .int (nI nt), .int (nI pp), .int (th), .ref mp, .int (rn), .int (ro), .int (to), .int (wt), .int (hn), .int (ho), .ref mt, .int (nI tl), .int (fa), .int (bk), .int (ba), .int (spt), .int (hre), .int (tok), .int (val), .ref mc, .ref ml, .ref mn, .int (nI se), .ref mk, .ref mg, .ref mh, .ref mq, .int (tn)])), (ma, .inl (E.2.1 1, 172, .inl (f)))] := by
        intro D_42
        induction D_42 with
        | zero => intro i s t a h; exact absurd h (Nat.not_lt_zero _)
        | succ D_42 ih_42 =>
          intro i s t a hmu_42 h_42_0 h_42_1 h_42_2
          refine v_iload (pc := 42) 0 dX5_drift_42 rfl ?_
          refine v_iload_n (pc := 44) 6 dX5_drift_44 rfl rfl ?_
          refine v_cmpN_ge (pc := 45) (a := i) (b := m) 109 dX5_drift_45 (by decide) (by omega) (by omega) (fun c_45 => ?_) (fun c_45 => ?_)
          · skip
            refine v_iload_n (pc := 109) 7 dX5_drift_109 rfl rfl ?_
            refine v_if_ne (pc := 110) 118 dX5_drift_110 (by decide) (fun c_110 => ?_) (fun c_110 => ?_)
            · skip
              refine v_iload (pc := 118) 3 dX5_drift_118 rfl ?_
              refine v_iret (pc := 120) dX5_drift_120 rfl ⟨rfl, rfl⟩ (Rt.i ?_)
              obtain rfl : i = m := by omega
              rw [if_pos c_9, if_pos c_19, hmc, ← h_42_2, if_neg c_110]
            · skip
              refine v_iload (pc := 113) 2 dX5_drift_113 rfl ?_
              refine v_goto (pc := 115) 120 dX5_drift_115 (by decide) ?_
              refine v_iret (pc := 120) dX5_drift_120 rfl ⟨rfl, rfl⟩ (Rt.i ?_)
              obtain rfl : i = m := by omega
              rw [if_pos c_9, if_pos c_19, hmc, ← h_42_2, if_pos c_110]
          · skip
            refine v_iload (pc := 48) 1 dX5_drift_48 rfl ?_
            refine v_ldc (pc := 50) dX5_drift_50 tb_1174 ?_
            refine v_imul (pc := 52) dX5_drift_52 ?_
            refine v_sipush (pc := 53) (v := 12345) dX5_drift_53 (by decide) ?_
            refine v_iadd (pc := 56) dX5_drift_56 ?_
            refine v_st (st' := [.int (drS s)]) rfl ?_
            refine v_istore (pc := 57) (lv' := [(4, .int (drS s)), (7, .int (nI i)), (5, .int (t)), (6, .int (nI a)), (0, .ref m0), (1, .int (sd)), (2, .int (nI m)), (3, .int (wh))]) dX5_drift_57 (by decide) rfl ?_
            refine v_aload_n (pc := 59) 4 dX5_drift_59 rfl rfl ?_
            refine v_iload (pc := 60) 2 dX5_drift_60 rfl ?_
            refine v_iconst (pc := 62) (v := 1) dX5_drift_62 (by decide) ?_
            refine v_iload (pc := 63) 0 dX5_drift_63 rfl ?_
            refine v_bipush (pc := 65) (v := 16) dX5_drift_65 (by decide) ?_
            refine v_ishr (pc := 67) dX5_drift_67 ?_
            refine v_sipush (pc := 68) (v := 32767) dX5_drift_68 (by decide) ?_
            refine v_iand (pc := 71) dX5_drift_71 ?_
            refine v_st (st' := [.int (drB (drS s)), .int (1), .int (t), .ref m0]) (by exact congrArg (fun z => Value.int z :: _) (drB_eq (drS s))) ?_
            refine v_aload_n (pc := 72) 4 dX5_drift_72 rfl rfl ?_
            refine gf_788 (pc := 73) 0 dX5_drift_73 rfl rfl ?_
            refine v_irem (pc := 76) dX5_drift_76 (nI_ne0 (by omega) (by omega)) ?_
            refine v_st (st' := [.int (drM (drS s) nt), .int (1), .int (t), .ref m0]) rfl ?_
            refine v_ishl (pc := 77) dX5_drift_77 ?_
            refine v_ixor (pc := 78) dX5_drift_78 ?_
            refine v_callV (pc := 79) (rest := []) [0, 1] 0 lk_1028 (c_X5_broughtBy l E m0 ma mp mt mc ml mn mk mg mh mq nt pp rl tl se th rn ro to wt hn ho fa bk ba spt hre tok val tn f ((t) ^^^ ((1 : Int32) <<< ((drM (drS s) nt) &&& 31))) (by first | assumption | omega) (by first | assumption | omega)) dX5_drift_79 rfl rfl (Nat.le_of_ble_eq_true rfl) (by decide) rfl rfl rfl (by decide) rfl (Rt.len rfl) (Rt.go ?_)
            refine v_w (ws' := [(m0, .inr (5, [.ref ma, .int (nI nt), .int (nI pp), .int (th), .ref mp, .int (rn), .int (ro), .int (to), .int (wt), .int (hn), .int (ho), .ref mt, .int (nI tl), .int (fa), .int (bk), .int (ba), .int (spt), .int (hre), .int (tok), .int (val), .ref mc, .ref ml, .ref mn, .int (nI se), .ref mk, .ref mg, .ref mh, .ref mq, .int (tn)])), (ma, .inl (E.2.1 1, 172, .inl (f)))]) rfl ?_
            refine v_st (st' := [.int (outM rl th f ((t) ^^^ ((1 : Int32) <<< ((drM (drS s) nt) &&& 31))))]) rfl ?_
            refine v_istore (pc := 82) (lv' := [(5, .int (outM rl th f ((t) ^^^ ((1 : Int32) <<< ((drM (drS s) nt) &&& 31))))), (4, .int (drS s)), (7, .int (nI i)), (6, .int (nI a)), (0, .ref m0), (1, .int (sd)), (2, .int (nI m)), (3, .int (wh))]) dX5_drift_82 (by decide) rfl ?_
            refine v_iload (pc := 84) 3 dX5_drift_84 rfl ?_
            refine v_aload_n (pc := 86) 4 dX5_drift_86 rfl rfl ?_
            refine v_iload (pc := 87) 0 dX5_drift_87 rfl ?_
            refine v_callV (pc := 89) (rest := [.int (nI a)]) [0, 1] 0 lk_1057 (c_X5_agrees l E m0 ma mp mt mc ml mn mk mg mh mq nt pp rl tl se th rn ro to wt hn ho fa bk ba spt hre tok val tn f (outM rl th f ((t) ^^^ ((1 : Int32) <<< ((drM (drS s) nt) &&& 31)))) (by first | assumption | omega) (by first | assumption | omega)) dX5_drift_89 rfl rfl (Nat.le_of_ble_eq_true rfl) (by decide) rfl rfl rfl (by decide) rfl (Rt.len rfl) (Rt.go ?_)
            refine v_w (ws' := [(m0, .inr (5, [.ref ma, .int (nI nt), .int (nI pp), .int (th), .ref mp, .int (rn), .int (ro), .int (to), .int (wt), .int (hn), .int (ho), .ref mt, .int (nI tl), .int (fa), .int (bk), .int (ba), .int (spt), .int (hre), .int (tok), .int (val), .ref mc, .ref ml, .ref mn, .int (nI se), .ref mk, .ref mg, .ref mh, .ref mq, .int (tn)])), (ma, .inl (E.2.1 1, 172, .inl (f)))]) rfl ?_
            refine v_st (st' := [.int (if outM rl th f (outM rl th f ((t) ^^^ ((1 : Int32) <<< ((drM (drS s) nt) &&& 31)))) = (outM rl th f ((t) ^^^ ((1 : Int32) <<< ((drM (drS s) nt) &&& 31)))) then 1 else 0), .int (nI a)]) rfl ?_
            refine v_ifB_eq (pc := 92) 99 dX5_drift_92 (by decide) (fun c_92 => ?_) (fun c_92 => ?_)
            · skip
              refine v_iconst (pc := 99) (v := 0) dX5_drift_99 (by decide) ?_
              refine v_iadd (pc := 100) dX5_drift_100 ?_
              refine v_st (st' := [.int (nI (a + 0))]) (congrArg (fun z => Value.int z :: _) (nI_add a 0)) ?_
              refine v_istore (pc := 101) (lv' := [(6, .int (nI (a + 0))), (5, .int (outM rl th f ((t) ^^^ ((1 : Int32) <<< ((drM (drS s) nt) &&& 31))))), (4, .int (drS s)), (7, .int (nI i)), (0, .ref m0), (1, .int (sd)), (2, .int (nI m)), (3, .int (wh))]) dX5_drift_101 (by decide) rfl ?_
              refine v_iinc (pc := 103) (v := nI (i + 1)) (lv' := [(7, .int (nI (i + 1))), (6, .int (nI (a + 0))), (5, .int (outM rl th f ((t) ^^^ ((1 : Int32) <<< ((drM (drS s) nt) &&& 31))))), (4, .int (drS s)), (0, .ref m0), (1, .int (sd)), (2, .int (nI m)), (3, .int (wh))]) 3 dX5_drift_103 rfl (nI_inc (i) 1) (by decide) rfl ?_
              refine v_goto (pc := 106) 42 dX5_drift_106 (by decide) ?_
              refine v_lv (lv' := [(7, .int (nI (i + 1))), (4, .int (drS s)), (5, .int (outM rl th f ((t) ^^^ ((1 : Int32) <<< ((drM (drS s) nt) &&& 31))))), (6, .int (nI (a + 0))), (0, .ref m0), (1, .int (sd)), (2, .int (nI m)), (3, .int (wh))]) [0, 3, 2, 1, 4, 5, 6, 7] rfl ?_
              refine ih_42 (i + 1) (drS s) (outM rl th f ((t) ^^^ ((1 : Int32) <<< ((drM (drS s) nt) &&& 31)))) (a + 0) (by omega) ?_ ?_ ?_
              · omega
              · omega
              · simp only [drK]; rw [← h_42_2]; simp only []; rw [if_neg c_92]
            · skip
              refine v_iconst (pc := 95) (v := 1) dX5_drift_95 (by decide) ?_
              refine v_goto (pc := 96) 100 dX5_drift_96 (by decide) ?_
              refine v_iadd (pc := 100) dX5_drift_100 ?_
              refine v_st (st' := [.int (nI (a + 1))]) (congrArg (fun z => Value.int z :: _) (nI_add a 1)) ?_
              refine v_istore (pc := 101) (lv' := [(6, .int (nI (a + 1))), (5, .int (outM rl th f ((t) ^^^ ((1 : Int32) <<< ((drM (drS s) nt) &&& 31))))), (4, .int (drS s)), (7, .int (nI i)), (0, .ref m0), (1, .int (sd)), (2, .int (nI m)), (3, .int (wh))]) dX5_drift_101 (by decide) rfl ?_
              refine v_iinc (pc := 103) (v := nI (i + 1)) (lv' := [(7, .int (nI (i + 1))), (6, .int (nI (a + 1))), (5, .int (outM rl th f ((t) ^^^ ((1 : Int32) <<< ((drM (drS s) nt) &&& 31))))), (4, .int (drS s)), (0, .ref m0), (1, .int (sd)), (2, .int (nI m)), (3, .int (wh))]) 3 dX5_drift_103 rfl (nI_inc (i) 1) (by decide) rfl ?_
              refine v_goto (pc := 106) 42 dX5_drift_106 (by decide) ?_
              refine v_lv (lv' := [(7, .int (nI (i + 1))), (4, .int (drS s)), (5, .int (outM rl th f ((t) ^^^ ((1 : Int32) <<< ((drM (drS s) nt) &&& 31))))), (6, .int (nI (a + 1))), (0, .ref m0), (1, .int (sd)), (2, .int (nI m)), (3, .int (wh))]) [0, 3, 2, 1, 4, 5, 6, 7] rfl ?_
              refine ih_42 (i + 1) (drS s) (outM rl th f ((t) ^^^ ((1 : Int32) <<< ((drM (drS s) nt) &&& 31)))) (a + 1) (by omega) ?_ ?_ ?_
              · omega
              · omega
              · simp only [drK]; rw [← h_42_2]; simp only []; rw [if_pos c_92]
      refine v_lv (lv' := [(7, .int (nI 0)), (4, .int (sd)), (5, .int (f 41)), (6, .int (nI 0)), (0, .ref m0), (1, .int (sd)), (2, .int (nI m)), (3, .int (wh))]) [0, 3, 2, 1, 4, 5, 6, 7] rfl ?_
      refine loop_42 ((m - 0) + 1) 0 sd (f 41) 0 (Nat.lt_succ_self _) ?_ ?_ ?_
      · omega
      · omega
      · rfl
    · skip
      refine v_iconst (pc := 22) (v := -1) dX5_drift_22 (by decide) ?_
      refine v_iret (pc := 23) dX5_drift_23 rfl ⟨rfl, rfl⟩ (Rt.i ?_)
      rw [if_pos c_9, if_neg c_19]
theorem c_X5_copies (l : Launch) (E : VE) (m0 : Nat) (ma : Nat) (mp : Nat) (mt : Nat) (mc : Nat) (ml : Nat) (mn : Nat) (mk : Nat) (mg : Nat) (mh : Nat) (mq : Nat) (nt : Nat) (pp : Nat) (tl : Nat) (se : Nat) (th : Int32) (rn : Int32) (ro : Int32) (to : Int32) (wt : Int32) (hn : Int32) (ho : Int32) (fa : Int32) (bk : Int32) (ba : Int32) (spt : Int32) (hre : Int32) (tok : Int32) (val : Int32) (tn : Int32) (f : Nat → Int32) (a : Nat) (b : Nat) (h_ab : a + 43 ≤ b ∨ b + 43 ≤ a) (h_a : a ≤ 129) (h_b : b ≤ 129) : Ct l E yX5_copies cX5_copies 4 (Option.none : Option Jvm.ClassFile.FieldType) 0 0 0 0 [.ref m0, .int (nI a), .int (nI b)] [(m0, .inr (5, [.ref ma, .int (nI nt), .int (nI pp), .int (th), .ref mp, .int (rn), .int (ro), .int (to), .int (wt), .int (hn), .int (ho), .ref mt, .int (nI tl), .int (fa), .int (bk), .int (ba), .int (spt), .int (hre), .int (tok), .int (val), .ref mc, .ref ml, .ref mn, .int (nI se), .ref mk, .ref mg, .ref mh, .ref mq, .int (tn)])), (ma, .inl (E.2.1 1, 172, .inl (f)))] (Rt none [(m0, .inr (5, [.ref ma, .int (nI nt), .int (nI pp), .int (th), .ref mp, .int (rn), .int (ro), .int (to), .int (wt), .int (hn), .int (ho), .ref mt, .int (nI tl), .int (fa), .int (bk), .int (ba), .int (spt), .int (hre), .int (tok), .int (val), .ref mc, .ref ml, .ref mn, .int (nI se), .ref mk, .ref mg, .ref mh, .ref mq, .int (tn)])), (ma, .inl (E.2.1 1, 172, .inl (cpS f a b 43)))]) := by
  refine Ct.of (own := RX5) (nm := "copies") (lv := [(0, .ref m0), (1, .int (nI a)), (2, .int (nI b))]) (by decide) rfl rfl (Nat.le_of_ble_eq_true rfl) rfl ?_
  refine v_iconst (pc := 0) (v := 0) dX5_copies_0 (by decide) ?_
  refine v_istore_n (pc := 1) (lv' := [(3, .int (0)), (0, .ref m0), (1, .int (nI a)), (2, .int (nI b))]) dX5_copies_1 rfl (by decide) rfl ?_
  have loop_2 : ∀ (D_2 : Nat) (i : Nat) (g : Nat → Int32), 43 - i < D_2 → (i ≤ 43) → (g = cpS f a b i) → V l E RX5 cX5_copies 4 (Option.none : Option Jvm.ClassFile.FieldType) "copies" ({ frames := 0, cells := 0, slots := 0, locals := 0 }) [(m0, .inr (5, [.ref ma, .int (nI nt), .int (nI pp), .int (th), .ref mp, .int (rn), .int (ro), .int (to), .int (wt), .int (hn), .int (ho), .ref mt, .int (nI tl), .int (fa), .int (bk), .int (ba), .int (spt), .int (hre), .int (tok), .int (val), .ref mc, .ref ml, .ref mn, .int (nI se), .ref mk, .ref mg, .ref mh, .ref mq, .int (tn)])), (ma, .inl (E.2.1 1, 172, .inl (f)))] 0 0 (Rt none [(m0, .inr (5, [.ref ma, .int (nI nt), .int (nI pp), .int (th), .ref mp, .int (rn), .int (ro), .int (to), .int (wt), .int (hn), .int (ho), .ref mt, .int (nI tl), .int (fa), .int (bk), .int (ba), .int (spt), .int (hre), .int (tok), .int (val), .ref mc, .ref ml, .ref mn, .int (nI se), .ref mk, .ref mg, .ref mh, .ref mq, .int (tn)])), (ma, .inl (E.2.1 1, 172, .inl (cpS f a b 43)))]) 0 0 2 [(3, .int (nI i)), (0, .ref m0), (1, .int (nI a)), (2, .int (nI b))] [] [(m0, .inr (5, [.ref ma, .int (nI nt), .int (nI pp), .int (th), .ref mp, .int (rn), .int (ro), .int (to), .int (wt), .int (hn), .int (ho), .ref mt, .int (nI tl), .int (fa), .int (bk), .int (ba), .int (spt), .int (hre), .int (tok), .int (val), .ref mc, .ref ml, .ref mn, .int (nI se), .ref mk, .ref mg, .ref mh, .ref mq, .int (tn)])), (ma, .inl (E.2.1 1, 172, .inl (g)))] := by
    intro D_2
    induction D_2 with
    | zero => intro i g h; exact absurd h (Nat.not_lt_zero _)
    | succ D_2 ih_2 =>
      intro i g hmu_2 h_2_0 h_2_1
      refine v_iload_n (pc := 2) 0 dX5_copies_2 rfl rfl ?_
      refine v_bipush (pc := 3) (v := 43) dX5_copies_3 (by decide) ?_
      refine v_cmpN_ge (pc := 5) (a := i) (b := 43) 30 dX5_copies_5 (by decide) (by omega) (by omega) (fun c_5 => ?_) (fun c_5 => ?_)
      · skip
        refine v_vret (pc := 30) dX5_copies_30 rfl ⟨rfl, rfl⟩ (Rt.w ?_)
        obtain rfl : i = 43 := by omega
        rw [h_2_1]
      · skip
        refine v_aload_n (pc := 8) 1 dX5_copies_8 rfl rfl ?_
        refine gf_787 (pc := 9) 0 dX5_copies_9 rfl rfl ?_
        refine v_iload_n (pc := 12) 3 dX5_copies_12 rfl rfl ?_
        refine v_iload_n (pc := 13) 0 dX5_copies_13 rfl rfl ?_
        refine v_iadd (pc := 14) dX5_copies_14 ?_
        refine v_st (st' := [.int (nI (b + i)), .ref ma]) (congrArg (fun z => Value.int z :: _) (nI_add b i)) ?_
        refine v_aload_n (pc := 15) 1 dX5_copies_15 rfl rfl ?_
        refine gf_787 (pc := 16) 0 dX5_copies_16 rfl rfl ?_
        refine v_iload_n (pc := 19) 2 dX5_copies_19 rfl rfl ?_
        refine v_iload_n (pc := 20) 0 dX5_copies_20 rfl rfl ?_
        refine v_iadd (pc := 21) dX5_copies_21 ?_
        refine v_st (st' := [.int (nI (a + i)), .ref ma, .int (nI (b + i)), .ref ma]) (congrArg (fun z => Value.int z :: _) (nI_add a i)) ?_
        refine v_ialdN (pc := 22) 1 1 (a + i) dX5_copies_22 rfl rfl rfl (by omega) (by decide) ?_
        refine v_iastN (pc := 23) (ws' := [(m0, .inr (5, [.ref ma, .int (nI nt), .int (nI pp), .int (th), .ref mp, .int (rn), .int (ro), .int (to), .int (wt), .int (hn), .int (ho), .ref mt, .int (nI tl), .int (fa), .int (bk), .int (ba), .int (spt), .int (hre), .int (tok), .int (val), .ref mc, .ref ml, .ref mn, .int (nI se), .ref mk, .ref mg, .ref mh, .ref mq, .int (tn)])), (ma, .inl (E.2.1 1, 172, .inl (upd (g) (b + i) (g (a + i)))))]) 1 1 (b + i) dX5_copies_23 rfl rfl rfl (by omega) (by decide) rfl ?_
        refine v_iinc (pc := 24) (v := nI (i + 1)) (lv' := [(3, .int (nI (i + 1))), (0, .ref m0), (1, .int (nI a)), (2, .int (nI b))]) 0 dX5_copies_24 rfl (nI_inc (i) 1) (by decide) rfl ?_
        refine v_goto (pc := 27) 2 dX5_copies_27 (by decide) ?_
        refine v_lv (lv' := [(3, .int (nI (i + 1))), (0, .ref m0), (1, .int (nI a)), (2, .int (nI b))]) [0, 1, 2, 3] rfl ?_
        refine ih_2 (i + 1) (upd (g) (b + i) (g (a + i))) (by omega) ?_ ?_
        · omega
        · rw [h_2_1]; exact cpS_s h_ab (by omega)
  refine v_lv (lv' := [(3, .int (nI 0)), (0, .ref m0), (1, .int (nI a)), (2, .int (nI b))]) [0, 1, 2, 3] rfl ?_
  refine loop_2 ((43 - 0) + 1) 0 f (Nat.lt_succ_self _) ?_ ?_
  · omega
  · exact (cpS_0 f a b).symm
theorem c_X5_keep (l : Launch) (E : VE) (m0 : Nat) (ma : Nat) (mp : Nat) (mt : Nat) (mc : Nat) (ml : Nat) (mn : Nat) (mk : Nat) (mg : Nat) (mh : Nat) (mq : Nat) (nt : Nat) (pp : Nat) (tl : Nat) (se : Nat) (th : Int32) (rn : Int32) (ro : Int32) (to : Int32) (wt : Int32) (hn : Int32) (ho : Int32) (fa : Int32) (bk : Int32) (ba : Int32) (spt : Int32) (hre : Int32) (tok : Int32) (val : Int32) (tn : Int32) (f : Nat → Int32) (km : Nat → Int32) (j : Nat) (h_j : j < 2) : Ct l E yX5_keep cX5_keep 3 (Option.some FieldType.int) 1 25 0 0 [.ref m0, .int (nI j)] [(m0, .inr (5, [.ref ma, .int (nI nt), .int (nI pp), .int (th), .ref mp, .int (rn), .int (ro), .int (to), .int (wt), .int (hn), .int (ho), .ref mt, .int (nI tl), .int (fa), .int (bk), .int (ba), .int (spt), .int (hre), .int (tok), .int (val), .ref mc, .ref ml, .ref mn, .int (nI se), .ref mk, .ref mg, .ref mh, .ref mq, .int (tn)])), (ma, .inl (E.2.1 1, 172, .inl (f))), (mk, .inl (E.2.1 3, 2, .inl (km)))] (Rt (some (.int (if km j = 0 then 0 else 1))) [(m0, .inr (5, [.ref ma, .int (nI nt), .int (nI pp), .int (th), .ref mp, .int (rn), .int (ro), .int (to), .int (wt), .int (hn), .int (ho), .ref mt, .int (nI tl), .int (fa), .int (bk), .int (ba), .int (spt), .int (hre), .int (tok), .int (val), .ref mc, .ref ml, .ref mn, .int (nI se), .ref mk, .ref mg, .ref mh, .ref mq, .int (tn)])), (ma, .inl (E.2.1 1, 172, .inl (cpS f 0 (43 * (j + 1)) 43))), (mk, .inl (E.2.1 3, 2, .inl (upd km j (vp_nar .boolean 1))))]) := by
  refine Ct.of (own := RX5) (nm := "keep") (lv := [(0, .ref m0), (1, .int (nI j))]) (by decide) rfl rfl (Nat.le_of_ble_eq_true rfl) rfl ?_
  refine v_iload_n (pc := 0) 1 dX5_keep_0 rfl rfl ?_
  refine v_i2l (pc := 1) dX5_keep_1 ?_
  refine v_lconst (pc := 2) (v := 0) dX5_keep_2 (by decide) ?_
  refine v_lconst (pc := 3) (v := 1) dX5_keep_3 (by decide) ?_
  refine v_callS (pc := 4) (rest := []) [] lk_880 (c_X5_in l E (Int32.toInt64 (nI j)) 0 1) dX5_keep_4 rfl rfl (Nat.le_of_ble_eq_true rfl) (by decide) (by decide) rfl (Rt.len rfl) (Rt.go ?_)
  refine v_w (ws' := [(m0, .inr (5, [.ref ma, .int (nI nt), .int (nI pp), .int (th), .ref mp, .int (rn), .int (ro), .int (to), .int (wt), .int (hn), .int (ho), .ref mt, .int (nI tl), .int (fa), .int (bk), .int (ba), .int (spt), .int (hre), .int (tok), .int (val), .ref mc, .ref ml, .ref mn, .int (nI se), .ref mk, .ref mg, .ref mh, .ref mq, .int (tn)])), (ma, .inl (E.2.1 1, 172, .inl (f))), (mk, .inl (E.2.1 3, 2, .inl (km)))]) rfl ?_
  refine v_st (st' := [.int (if ¬ (Int32.toInt64 (nI j)) < 0 ∧ ¬ 1 < (Int32.toInt64 (nI j)) then 1 else 0)]) rfl ?_
  refine v_st (st' := [.int (if ¬ nI j < 0 ∧ ¬ 1 < nI j then 1 else 0)]) (ite_st (inK (a := 0) (b := 1)) _) ?_
  refine v_ifB_ne (pc := 7) 12 dX5_keep_7 (by decide) (fun c_7 => ?_) (fun c_7 => ?_)
  · skip
    refine v_aload_n (pc := 12) 0 dX5_keep_12 rfl rfl ?_
    refine v_iconst (pc := 13) (v := 0) dX5_keep_13 (by decide) ?_
    refine v_bipush (pc := 14) (v := 43) dX5_keep_14 (by decide) ?_
    refine v_iload_n (pc := 16) 1 dX5_keep_16 rfl rfl ?_
    refine v_iconst (pc := 17) (v := 1) dX5_keep_17 (by decide) ?_
    refine v_iadd (pc := 18) dX5_keep_18 ?_
    refine v_st (st' := [.int (nI (j + 1)), .int (43), .int (0), .ref m0]) (congrArg (fun z => Value.int z :: _) (nI_add j 1)) ?_
    refine v_imul (pc := 19) dX5_keep_19 ?_
    refine v_st (st' := [.int (nI (43 * (j + 1))), .int (0), .ref m0]) (congrArg (fun z => Value.int z :: _) (pk_mul 43 (j + 1))) ?_
    refine v_callV (pc := 20) (rest := []) [0, 1] 0 lk_1179 (c_X5_copies l E m0 ma mp mt mc ml mn mk mg mh mq nt pp tl se th rn ro to wt hn ho fa bk ba spt hre tok val tn f 0 (43 * (j + 1)) (by first | assumption | omega) (by first | assumption | omega) (by first | assumption | omega)) dX5_keep_20 rfl rfl (Nat.le_of_ble_eq_true rfl) (by decide) rfl rfl rfl (by decide) rfl (Rt.len rfl) (Rt.go ?_)
    refine v_w (ws' := [(m0, .inr (5, [.ref ma, .int (nI nt), .int (nI pp), .int (th), .ref mp, .int (rn), .int (ro), .int (to), .int (wt), .int (hn), .int (ho), .ref mt, .int (nI tl), .int (fa), .int (bk), .int (ba), .int (spt), .int (hre), .int (tok), .int (val), .ref mc, .ref ml, .ref mn, .int (nI se), .ref mk, .ref mg, .ref mh, .ref mq, .int (tn)])), (ma, .inl (E.2.1 1, 172, .inl (cpS f 0 (43 * (j + 1)) 43))), (mk, .inl (E.2.1 3, 2, .inl (km)))]) rfl ?_
    refine v_st (st' := []) rfl ?_
    refine v_aload_n (pc := 23) 0 dX5_keep_23 rfl rfl ?_
    refine gf_811 (pc := 24) 0 dX5_keep_24 rfl rfl ?_
    refine v_iload_n (pc := 27) 1 dX5_keep_27 rfl rfl ?_
    refine v_zaldN (pc := 28) 2 3 (j) dX5_keep_28 rfl rfl rfl (by omega) (by decide) ?_
    refine v_if_eq (pc := 29) 36 dX5_keep_29 (by decide) (fun c_29 => ?_) (fun c_29 => ?_)
    · skip
      refine v_iconst (pc := 36) (v := 0) dX5_keep_36 (by decide) ?_
      refine v_istore_n (pc := 37) (lv' := [(2, .int (0)), (0, .ref m0), (1, .int (nI j))]) dX5_keep_37 rfl (by decide) rfl ?_
      refine v_aload_n (pc := 38) 1 dX5_keep_38 rfl rfl ?_
      refine gf_811 (pc := 39) 0 dX5_keep_39 rfl rfl ?_
      refine v_iload_n (pc := 42) 2 dX5_keep_42 rfl rfl ?_
      refine v_iconst (pc := 43) (v := 1) dX5_keep_43 (by decide) ?_
      refine v_zastN (pc := 44) (ws' := [(m0, .inr (5, [.ref ma, .int (nI nt), .int (nI pp), .int (th), .ref mp, .int (rn), .int (ro), .int (to), .int (wt), .int (hn), .int (ho), .ref mt, .int (nI tl), .int (fa), .int (bk), .int (ba), .int (spt), .int (hre), .int (tok), .int (val), .ref mc, .ref ml, .ref mn, .int (nI se), .ref mk, .ref mg, .ref mh, .ref mq, .int (tn)])), (ma, .inl (E.2.1 1, 172, .inl (cpS f 0 (43 * (j + 1)) 43))), (mk, .inl (E.2.1 3, 2, .inl (upd (km) (j) (vp_nar .boolean (1)))))]) 2 3 (j) dX5_keep_44 rfl rfl rfl (by omega) (by decide) rfl ?_
      refine v_iload_n (pc := 45) 0 dX5_keep_45 rfl rfl ?_
      refine v_iret (pc := 46) dX5_keep_46 rfl ⟨rfl, rfl⟩ (Rt.i2 ?_ ?_)
      · skip
        rw [if_pos c_29]
      · skip
        rfl
    · skip
      refine v_iconst (pc := 32) (v := 1) dX5_keep_32 (by decide) ?_
      refine v_goto (pc := 33) 37 dX5_keep_33 (by decide) ?_
      refine v_istore_n (pc := 37) (lv' := [(2, .int (1)), (0, .ref m0), (1, .int (nI j))]) dX5_keep_37 rfl (by decide) rfl ?_
      refine v_aload_n (pc := 38) 1 dX5_keep_38 rfl rfl ?_
      refine gf_811 (pc := 39) 0 dX5_keep_39 rfl rfl ?_
      refine v_iload_n (pc := 42) 2 dX5_keep_42 rfl rfl ?_
      refine v_iconst (pc := 43) (v := 1) dX5_keep_43 (by decide) ?_
      refine v_zastN (pc := 44) (ws' := [(m0, .inr (5, [.ref ma, .int (nI nt), .int (nI pp), .int (th), .ref mp, .int (rn), .int (ro), .int (to), .int (wt), .int (hn), .int (ho), .ref mt, .int (nI tl), .int (fa), .int (bk), .int (ba), .int (spt), .int (hre), .int (tok), .int (val), .ref mc, .ref ml, .ref mn, .int (nI se), .ref mk, .ref mg, .ref mh, .ref mq, .int (tn)])), (ma, .inl (E.2.1 1, 172, .inl (cpS f 0 (43 * (j + 1)) 43))), (mk, .inl (E.2.1 3, 2, .inl (upd (km) (j) (vp_nar .boolean (1)))))]) 2 3 (j) dX5_keep_44 rfl rfl rfl (by omega) (by decide) rfl ?_
      refine v_iload_n (pc := 45) 0 dX5_keep_45 rfl rfl ?_
      refine v_iret (pc := 46) dX5_keep_46 rfl ⟨rfl, rfl⟩ (Rt.i2 ?_ ?_)
      · skip
        rw [if_neg c_29]
      · skip
        rfl
  · skip
    refine v_iconst (pc := 10) (v := -1) dX5_keep_10 (by decide) ?_
    refine v_iret (pc := 11) dX5_keep_11 rfl ⟨rfl, rfl⟩ (Rt.i2 ?_ ?_)
    · skip
      exact absurd ⟨nI_pos (by omega), fun z => absurd ((nI_ltI (a := 1) (by omega) (by omega)).mp z) (by omega)⟩ c_7
    · skip
      exact absurd ⟨nI_pos (by omega), fun z => absurd ((nI_ltI (a := 1) (by omega) (by omega)).mp z) (by omega)⟩ c_7
theorem cB_X5_keep (l : Launch) (E : VE) (m0 : Nat) (ma : Nat) (mp : Nat) (mt : Nat) (mc : Nat) (ml : Nat) (mn : Nat) (mk : Nat) (mg : Nat) (mh : Nat) (mq : Nat) (nt : Nat) (pp : Nat) (tl : Nat) (se : Nat) (th : Int32) (rn : Int32) (ro : Int32) (to : Int32) (wt : Int32) (hn : Int32) (ho : Int32) (fa : Int32) (bk : Int32) (ba : Int32) (spt : Int32) (hre : Int32) (tok : Int32) (val : Int32) (tn : Int32) (k : Int32) (h_k : ¬ (¬ k < 0 ∧ ¬ 1 < k)) : Ct l E yX5_keep cX5_keep 3 (Option.some FieldType.int) 1 25 0 0 [.ref m0, .int (k)] [(m0, .inr (5, [.ref ma, .int (nI nt), .int (nI pp), .int (th), .ref mp, .int (rn), .int (ro), .int (to), .int (wt), .int (hn), .int (ho), .ref mt, .int (nI tl), .int (fa), .int (bk), .int (ba), .int (spt), .int (hre), .int (tok), .int (val), .ref mc, .ref ml, .ref mn, .int (nI se), .ref mk, .ref mg, .ref mh, .ref mq, .int (tn)]))] (Rt (some (.int (-1))) [(m0, .inr (5, [.ref ma, .int (nI nt), .int (nI pp), .int (th), .ref mp, .int (rn), .int (ro), .int (to), .int (wt), .int (hn), .int (ho), .ref mt, .int (nI tl), .int (fa), .int (bk), .int (ba), .int (spt), .int (hre), .int (tok), .int (val), .ref mc, .ref ml, .ref mn, .int (nI se), .ref mk, .ref mg, .ref mh, .ref mq, .int (tn)]))]) := by
  refine Ct.of (own := RX5) (nm := "keep") (lv := [(0, .ref m0), (1, .int (k))]) (by decide) rfl rfl (Nat.le_of_ble_eq_true rfl) rfl ?_
  refine v_iload_n (pc := 0) 1 dX5_keep_0 rfl rfl ?_
  refine v_i2l (pc := 1) dX5_keep_1 ?_
  refine v_lconst (pc := 2) (v := 0) dX5_keep_2 (by decide) ?_
  refine v_lconst (pc := 3) (v := 1) dX5_keep_3 (by decide) ?_
  refine v_callS (pc := 4) (rest := []) [] lk_880 (c_X5_in l E (Int32.toInt64 (k)) 0 1) dX5_keep_4 rfl rfl (Nat.le_of_ble_eq_true rfl) (by decide) (by decide) rfl (Rt.len rfl) (Rt.go ?_)
  refine v_w (ws' := [(m0, .inr (5, [.ref ma, .int (nI nt), .int (nI pp), .int (th), .ref mp, .int (rn), .int (ro), .int (to), .int (wt), .int (hn), .int (ho), .ref mt, .int (nI tl), .int (fa), .int (bk), .int (ba), .int (spt), .int (hre), .int (tok), .int (val), .ref mc, .ref ml, .ref mn, .int (nI se), .ref mk, .ref mg, .ref mh, .ref mq, .int (tn)]))]) rfl ?_
  refine v_st (st' := [.int (if ¬ (Int32.toInt64 (k)) < 0 ∧ ¬ 1 < (Int32.toInt64 (k)) then 1 else 0)]) rfl ?_
  refine v_st (st' := [.int (if ¬ k < 0 ∧ ¬ 1 < k then 1 else 0)]) (ite_st (inK (a := 0) (b := 1)) _) ?_
  refine v_ifB_ne (pc := 7) 12 dX5_keep_7 (by decide) (fun c_7 => ?_) (fun c_7 => ?_)
  · skip
    exact absurd c_7 h_k
  · skip
    refine v_iconst (pc := 10) (v := -1) dX5_keep_10 (by decide) ?_
    refine v_iret (pc := 11) dX5_keep_11 rfl ⟨rfl, rfl⟩ (Rt.i ?_)
    first | simp only [if_neg c_7] | rfl
theorem cB_X5_back (l : Launch) (E : VE) (m0 : Nat) (ma : Nat) (mp : Nat) (mt : Nat) (mc : Nat) (ml : Nat) (mn : Nat) (mk : Nat) (mg : Nat) (mh : Nat) (mq : Nat) (nt : Nat) (pp : Nat) (tl : Nat) (se : Nat) (th : Int32) (rn : Int32) (ro : Int32) (to : Int32) (wt : Int32) (hn : Int32) (ho : Int32) (fa : Int32) (bk : Int32) (ba : Int32) (spt : Int32) (hre : Int32) (tok : Int32) (val : Int32) (tn : Int32) (k : Int32) (h_k : ¬ (¬ k < 0 ∧ ¬ 1 < k)) : Ct l E yX5_back cX5_back 2 (Option.some FieldType.int) 1 25 0 0 [.ref m0, .int (k)] [(m0, .inr (5, [.ref ma, .int (nI nt), .int (nI pp), .int (th), .ref mp, .int (rn), .int (ro), .int (to), .int (wt), .int (hn), .int (ho), .ref mt, .int (nI tl), .int (fa), .int (bk), .int (ba), .int (spt), .int (hre), .int (tok), .int (val), .ref mc, .ref ml, .ref mn, .int (nI se), .ref mk, .ref mg, .ref mh, .ref mq, .int (tn)]))] (Rt (some (.int (-1))) [(m0, .inr (5, [.ref ma, .int (nI nt), .int (nI pp), .int (th), .ref mp, .int (rn), .int (ro), .int (to), .int (wt), .int (hn), .int (ho), .ref mt, .int (nI tl), .int (fa), .int (bk), .int (ba), .int (spt), .int (hre), .int (tok), .int (val), .ref mc, .ref ml, .ref mn, .int (nI se), .ref mk, .ref mg, .ref mh, .ref mq, .int (tn)]))]) := by
  refine Ct.of (own := RX5) (nm := "back") (lv := [(0, .ref m0), (1, .int (k))]) (by decide) rfl rfl (Nat.le_of_ble_eq_true rfl) rfl ?_
  refine v_iload_n (pc := 0) 1 dX5_back_0 rfl rfl ?_
  refine v_i2l (pc := 1) dX5_back_1 ?_
  refine v_lconst (pc := 2) (v := 0) dX5_back_2 (by decide) ?_
  refine v_lconst (pc := 3) (v := 1) dX5_back_3 (by decide) ?_
  refine v_callS (pc := 4) (rest := []) [] lk_880 (c_X5_in l E (Int32.toInt64 (k)) 0 1) dX5_back_4 rfl rfl (Nat.le_of_ble_eq_true rfl) (by decide) (by decide) rfl (Rt.len rfl) (Rt.go ?_)
  refine v_w (ws' := [(m0, .inr (5, [.ref ma, .int (nI nt), .int (nI pp), .int (th), .ref mp, .int (rn), .int (ro), .int (to), .int (wt), .int (hn), .int (ho), .ref mt, .int (nI tl), .int (fa), .int (bk), .int (ba), .int (spt), .int (hre), .int (tok), .int (val), .ref mc, .ref ml, .ref mn, .int (nI se), .ref mk, .ref mg, .ref mh, .ref mq, .int (tn)]))]) rfl ?_
  refine v_st (st' := [.int (if ¬ (Int32.toInt64 (k)) < 0 ∧ ¬ 1 < (Int32.toInt64 (k)) then 1 else 0)]) rfl ?_
  refine v_st (st' := [.int (if ¬ k < 0 ∧ ¬ 1 < k then 1 else 0)]) (ite_st (inK (a := 0) (b := 1)) _) ?_
  refine v_ifB_ne (pc := 7) 12 dX5_back_7 (by decide) (fun c_7 => ?_) (fun c_7 => ?_)
  · skip
    exact absurd c_7 h_k
  · skip
    refine v_iconst (pc := 10) (v := -1) dX5_back_10 (by decide) ?_
    refine v_iret (pc := 11) dX5_back_11 rfl ⟨rfl, rfl⟩ (Rt.i ?_)
    first | simp only [if_neg c_7] | rfl
theorem cN_X5_back (l : Launch) (E : VE) (m0 : Nat) (ma : Nat) (mp : Nat) (mt : Nat) (mc : Nat) (ml : Nat) (mn : Nat) (mk : Nat) (mg : Nat) (mh : Nat) (mq : Nat) (nt : Nat) (pp : Nat) (tl : Nat) (se : Nat) (th : Int32) (rn : Int32) (ro : Int32) (to : Int32) (wt : Int32) (hn : Int32) (ho : Int32) (fa : Int32) (bk : Int32) (ba : Int32) (spt : Int32) (hre : Int32) (tok : Int32) (val : Int32) (tn : Int32) (km : Nat → Int32) (j : Nat) (h_j : j < 2) (h_kp : km j = 0) : Ct l E yX5_back cX5_back 2 (Option.some FieldType.int) 1 25 0 0 [.ref m0, .int (nI j)] [(m0, .inr (5, [.ref ma, .int (nI nt), .int (nI pp), .int (th), .ref mp, .int (rn), .int (ro), .int (to), .int (wt), .int (hn), .int (ho), .ref mt, .int (nI tl), .int (fa), .int (bk), .int (ba), .int (spt), .int (hre), .int (tok), .int (val), .ref mc, .ref ml, .ref mn, .int (nI se), .ref mk, .ref mg, .ref mh, .ref mq, .int (tn)])), (mk, .inl (E.2.1 3, 2, .inl (km)))] (Rt (some (.int (-2))) [(m0, .inr (5, [.ref ma, .int (nI nt), .int (nI pp), .int (th), .ref mp, .int (rn), .int (ro), .int (to), .int (wt), .int (hn), .int (ho), .ref mt, .int (nI tl), .int (fa), .int (bk), .int (ba), .int (spt), .int (hre), .int (tok), .int (val), .ref mc, .ref ml, .ref mn, .int (nI se), .ref mk, .ref mg, .ref mh, .ref mq, .int (tn)])), (mk, .inl (E.2.1 3, 2, .inl (km)))]) := by
  refine Ct.of (own := RX5) (nm := "back") (lv := [(0, .ref m0), (1, .int (nI j))]) (by decide) rfl rfl (Nat.le_of_ble_eq_true rfl) rfl ?_
  refine v_iload_n (pc := 0) 1 dX5_back_0 rfl rfl ?_
  refine v_i2l (pc := 1) dX5_back_1 ?_
  refine v_lconst (pc := 2) (v := 0) dX5_back_2 (by decide) ?_
  refine v_lconst (pc := 3) (v := 1) dX5_back_3 (by decide) ?_
  refine v_callS (pc := 4) (rest := []) [] lk_880 (c_X5_in l E (Int32.toInt64 (nI j)) 0 1) dX5_back_4 rfl rfl (Nat.le_of_ble_eq_true rfl) (by decide) (by decide) rfl (Rt.len rfl) (Rt.go ?_)
  refine v_w (ws' := [(m0, .inr (5, [.ref ma, .int (nI nt), .int (nI pp), .int (th), .ref mp, .int (rn), .int (ro), .int (to), .int (wt), .int (hn), .int (ho), .ref mt, .int (nI tl), .int (fa), .int (bk), .int (ba), .int (spt), .int (hre), .int (tok), .int (val), .ref mc, .ref ml, .ref mn, .int (nI se), .ref mk, .ref mg, .ref mh, .ref mq, .int (tn)])), (mk, .inl (E.2.1 3, 2, .inl (km)))]) rfl ?_
  refine v_st (st' := [.int (if ¬ (Int32.toInt64 (nI j)) < 0 ∧ ¬ 1 < (Int32.toInt64 (nI j)) then 1 else 0)]) rfl ?_
  refine v_st (st' := [.int (if ¬ nI j < 0 ∧ ¬ 1 < nI j then 1 else 0)]) (ite_st (inK (a := 0) (b := 1)) _) ?_
  refine v_ifB_ne (pc := 7) 12 dX5_back_7 (by decide) (fun c_7 => ?_) (fun c_7 => ?_)
  · skip
    refine v_aload_n (pc := 12) 0 dX5_back_12 rfl rfl ?_
    refine gf_811 (pc := 13) 0 dX5_back_13 rfl rfl ?_
    refine v_iload_n (pc := 16) 1 dX5_back_16 rfl rfl ?_
    refine v_zaldN (pc := 17) 1 3 (j) dX5_back_17 rfl rfl rfl (by omega) (by decide) ?_
    refine v_if_ne (pc := 18) 24 dX5_back_18 (by decide) (fun c_18 => ?_) (fun c_18 => ?_)
    · skip
      exact absurd h_kp c_18
    · skip
      refine v_bipush (pc := 21) (v := -2) dX5_back_21 (by decide) ?_
      refine v_iret (pc := 23) dX5_back_23 rfl ⟨rfl, rfl⟩ (Rt.i ?_)
      first | simp only [if_pos c_7, if_pos c_18] | rfl
  · skip
    refine v_iconst (pc := 10) (v := -1) dX5_back_10 (by decide) ?_
    refine v_iret (pc := 11) dX5_back_11 rfl ⟨rfl, rfl⟩ (Rt.i ?_)
    exact absurd ⟨nI_pos (by omega), fun z => absurd ((nI_ltI (a := 1) (by omega) (by omega)).mp z) (by omega)⟩ c_7
theorem c_X5_back (l : Launch) (E : VE) (m0 : Nat) (ma : Nat) (mp : Nat) (mt : Nat) (mc : Nat) (ml : Nat) (mn : Nat) (mk : Nat) (mg : Nat) (mh : Nat) (mq : Nat) (nt : Nat) (pp : Nat) (tl : Nat) (se : Nat) (th : Int32) (rn : Int32) (ro : Int32) (to : Int32) (wt : Int32) (hn : Int32) (ho : Int32) (fa : Int32) (bk : Int32) (ba : Int32) (spt : Int32) (hre : Int32) (tok : Int32) (val : Int32) (tn : Int32) (f : Nat → Int32) (km : Nat → Int32) (j : Nat) (h_j : j < 2) (h_kp : ¬ km j = 0) : Ct l E yX5_back cX5_back 2 (Option.some FieldType.int) 1 25 0 0 [.ref m0, .int (nI j)] [(m0, .inr (5, [.ref ma, .int (nI nt), .int (nI pp), .int (th), .ref mp, .int (rn), .int (ro), .int (to), .int (wt), .int (hn), .int (ho), .ref mt, .int (nI tl), .int (fa), .int (bk), .int (ba), .int (spt), .int (hre), .int (tok), .int (val), .ref mc, .ref ml, .ref mn, .int (nI se), .ref mk, .ref mg, .ref mh, .ref mq, .int (tn)])), (ma, .inl (E.2.1 1, 172, .inl (f))), (mk, .inl (E.2.1 3, 2, .inl (km)))] (Rt (some (.int (cpS f (43 * (j + 1)) 0 43 41))) [(m0, .inr (5, [.ref ma, .int (nI nt), .int (nI pp), .int (th), .ref mp, .int (rn), .int (ro), .int (to), .int (wt), .int (hn), .int (ho), .ref mt, .int (nI tl), .int (fa), .int (bk), .int (ba), .int (spt), .int (hre), .int (tok), .int (val), .ref mc, .ref ml, .ref mn, .int (nI se), .ref mk, .ref mg, .ref mh, .ref mq, .int (tn)])), (ma, .inl (E.2.1 1, 172, .inl (cpS f (43 * (j + 1)) 0 43))), (mk, .inl (E.2.1 3, 2, .inl (km)))]) := by
  refine Ct.of (own := RX5) (nm := "back") (lv := [(0, .ref m0), (1, .int (nI j))]) (by decide) rfl rfl (Nat.le_of_ble_eq_true rfl) rfl ?_
  refine v_iload_n (pc := 0) 1 dX5_back_0 rfl rfl ?_
  refine v_i2l (pc := 1) dX5_back_1 ?_
  refine v_lconst (pc := 2) (v := 0) dX5_back_2 (by decide) ?_
  refine v_lconst (pc := 3) (v := 1) dX5_back_3 (by decide) ?_
  refine v_callS (pc := 4) (rest := []) [] lk_880 (c_X5_in l E (Int32.toInt64 (nI j)) 0 1) dX5_back_4 rfl rfl (Nat.le_of_ble_eq_true rfl) (by decide) (by decide) rfl (Rt.len rfl) (Rt.go ?_)
  refine v_w (ws' := [(m0, .inr (5, [.ref ma, .int (nI nt), .int (nI pp), .int (th), .ref mp, .int (rn), .int (ro), .int (to), .int (wt), .int (hn), .int (ho), .ref mt, .int (nI tl), .int (fa), .int (bk), .int (ba), .int (spt), .int (hre), .int (tok), .int (val), .ref mc, .ref ml, .ref mn, .int (nI se), .ref mk, .ref mg, .ref mh, .ref mq, .int (tn)])), (ma, .inl (E.2.1 1, 172, .inl (f))), (mk, .inl (E.2.1 3, 2, .inl (km)))]) rfl ?_
  refine v_st (st' := [.int (if ¬ (Int32.toInt64 (nI j)) < 0 ∧ ¬ 1 < (Int32.toInt64 (nI j)) then 1 else 0)]) rfl ?_
  refine v_st (st' := [.int (if ¬ nI j < 0 ∧ ¬ 1 < nI j then 1 else 0)]) (ite_st (inK (a := 0) (b := 1)) _) ?_
  refine v_ifB_ne (pc := 7) 12 dX5_back_7 (by decide) (fun c_7 => ?_) (fun c_7 => ?_)
  · skip
    refine v_aload_n (pc := 12) 0 dX5_back_12 rfl rfl ?_
    refine gf_811 (pc := 13) 0 dX5_back_13 rfl rfl ?_
    refine v_iload_n (pc := 16) 1 dX5_back_16 rfl rfl ?_
    refine v_zaldN (pc := 17) 2 3 (j) dX5_back_17 rfl rfl rfl (by omega) (by decide) ?_
    refine v_if_ne (pc := 18) 24 dX5_back_18 (by decide) (fun c_18 => ?_) (fun c_18 => ?_)
    · skip
      refine v_aload_n (pc := 24) 0 dX5_back_24 rfl rfl ?_
      refine v_bipush (pc := 25) (v := 43) dX5_back_25 (by decide) ?_
      refine v_iload_n (pc := 27) 1 dX5_back_27 rfl rfl ?_
      refine v_iconst (pc := 28) (v := 1) dX5_back_28 (by decide) ?_
      refine v_iadd (pc := 29) dX5_back_29 ?_
      refine v_st (st' := [.int (nI (j + 1)), .int (43), .ref m0]) (congrArg (fun z => Value.int z :: _) (nI_add j 1)) ?_
      refine v_imul (pc := 30) dX5_back_30 ?_
      refine v_st (st' := [.int (nI (43 * (j + 1))), .ref m0]) (congrArg (fun z => Value.int z :: _) (pk_mul 43 (j + 1))) ?_
      refine v_iconst (pc := 31) (v := 0) dX5_back_31 (by decide) ?_
      refine v_callV (pc := 32) (rest := []) [0, 1] 0 lk_1179 (c_X5_copies l E m0 ma mp mt mc ml mn mk mg mh mq nt pp tl se th rn ro to wt hn ho fa bk ba spt hre tok val tn f (43 * (j + 1)) 0 (by first | assumption | omega) (by first | assumption | omega) (by first | assumption | omega)) dX5_back_32 rfl rfl (Nat.le_of_ble_eq_true rfl) (by decide) rfl rfl rfl (by decide) rfl (Rt.len rfl) (Rt.go ?_)
      refine v_w (ws' := [(m0, .inr (5, [.ref ma, .int (nI nt), .int (nI pp), .int (th), .ref mp, .int (rn), .int (ro), .int (to), .int (wt), .int (hn), .int (ho), .ref mt, .int (nI tl), .int (fa), .int (bk), .int (ba), .int (spt), .int (hre), .int (tok), .int (val), .ref mc, .ref ml, .ref mn, .int (nI se), .ref mk, .ref mg, .ref mh, .ref mq, .int (tn)])), (ma, .inl (E.2.1 1, 172, .inl (cpS f (43 * (j + 1)) 0 43))), (mk, .inl (E.2.1 3, 2, .inl (km)))]) rfl ?_
      refine v_st (st' := []) rfl ?_
      refine v_aload_n (pc := 35) 0 dX5_back_35 rfl rfl ?_
      refine gf_787 (pc := 36) 0 dX5_back_36 rfl rfl ?_
      refine v_bipush (pc := 39) (v := 41) dX5_back_39 (by decide) ?_
      refine v_ialdN (pc := 41) 1 1 (41) dX5_back_41 rfl rfl rfl (by decide) (by decide) ?_
      refine v_iret (pc := 42) dX5_back_42 rfl ⟨rfl, rfl⟩ (Rt.i2 ?_ ?_)
      · skip
        rfl
      · skip
        rfl
    · skip
      refine v_bipush (pc := 21) (v := -2) dX5_back_21 (by decide) ?_
      refine v_iret (pc := 23) dX5_back_23 rfl ⟨rfl, rfl⟩ (Rt.i2 ?_ ?_)
      · skip
        exact absurd c_18 h_kp
      · skip
        exact absurd c_18 h_kp
  · skip
    refine v_iconst (pc := 10) (v := -1) dX5_back_10 (by decide) ?_
    refine v_iret (pc := 11) dX5_back_11 rfl ⟨rfl, rfl⟩ (Rt.i2 ?_ ?_)
    · skip
      exact absurd ⟨nI_pos (by omega), fun z => absurd ((nI_ltI (a := 1) (by omega) (by omega)).mp z) (by omega)⟩ c_7
    · skip
      exact absurd ⟨nI_pos (by omega), fun z => absurd ((nI_ltI (a := 1) (by omega) (by omega)).mp z) (by omega)⟩ c_7
theorem c_X5_sheet (l : Launch) (E : VE) (m0 : Nat) (ma : Nat) (mp : Nat) (mt : Nat) (mc : Nat) (ml : Nat) (mn : Nat) (mk : Nat) (mg : Nat) (mh : Nat) (mq : Nat) (nt : Nat) (pp : Nat) (tl : Nat) (se : Nat) (th : Int32) (rn : Int32) (ro : Int32) (to : Int32) (wt : Int32) (hn : Int32) (ho : Int32) (fa : Int32) (bk : Int32) (ba : Int32) (spt : Int32) (hre : Int32) (tok : Int32) (val : Int32) (tn : Int32) (lg : Nat → Int32) (lh_ : Nat → Int32) (cq : Nat → Int32) (j : Nat) (x : Int32) (n : Int32) (h_j : j < 4) : Ct l E yX5_sheet cX5_sheet 5 (Option.some FieldType.int) 1 25 0 0 [.ref m0, .int (nI j), .int (x), .int (n)] [(m0, .inr (5, [.ref ma, .int (nI nt), .int (nI pp), .int (th), .ref mp, .int (rn), .int (ro), .int (to), .int (wt), .int (hn), .int (ho), .ref mt, .int (nI tl), .int (fa), .int (bk), .int (ba), .int (spt), .int (hre), .int (tok), .int (val), .ref mc, .ref ml, .ref mn, .int (nI se), .ref mk, .ref mg, .ref mh, .ref mq, .int (tn)])), (mg, .inl (E.2.1 1, 4, .inl (lg))), (mh, .inl (E.2.1 1, 4, .inl (lh_))), (mq, .inl (E.2.1 1, 160, .inl (cq)))] (Rt (some (.int (if ¬ x < 0 ∧ ¬ 2 < x then (if n ≤ 40 then (if 0 ≤ n then 1 else -14) else -1) else -1))) [(m0, .inr (5, [.ref ma, .int (nI nt), .int (nI pp), .int (th), .ref mp, .int (rn), .int (ro), .int (to), .int (wt), .int (hn), .int (ho), .ref mt, .int (nI tl), .int (fa), .int (bk), .int (ba), .int (spt), .int (hre), .int (tok), .int (val), .ref mc, .ref ml, .ref mn, .int (nI se), .ref mk, .ref mg, .ref mh, .ref mq, .int (tn)])), (mg, .inl (E.2.1 1, 4, .inl (if ¬ x < 0 ∧ ¬ 2 < x then (if n ≤ 40 then (if 0 ≤ n then upd lg j x else lg) else lg) else lg))), (mh, .inl (E.2.1 1, 4, .inl (if ¬ x < 0 ∧ ¬ 2 < x then (if n ≤ 40 then (if 0 ≤ n then upd lh_ j n else lh_) else lh_) else lh_))), (mq, .inl (E.2.1 1, 160, .inl (if ¬ x < 0 ∧ ¬ 2 < x then (if n ≤ 40 then (if 0 ≤ n then flS cq (40 * j) 40 else cq) else cq) else cq)))]) := by
  refine Ct.of (own := RX5) (nm := "sheet") (lv := [(0, .ref m0), (1, .int (nI j)), (2, .int (x)), (3, .int (n))]) (by decide) rfl rfl (Nat.le_of_ble_eq_true rfl) rfl ?_
  refine v_iload_n (pc := 0) 1 dX5_sheet_0 rfl rfl ?_
  refine v_i2l (pc := 1) dX5_sheet_1 ?_
  refine v_lconst (pc := 2) (v := 0) dX5_sheet_2 (by decide) ?_
  refine v_ldc2 (pc := 3) dX5_sheet_3 tb_1161 ?_
  refine v_callS (pc := 6) (rest := []) [] lk_880 (c_X5_in l E (Int32.toInt64 (nI j)) 0 3) dX5_sheet_6 rfl rfl (Nat.le_of_ble_eq_true rfl) (by decide) (by decide) rfl (Rt.len rfl) (Rt.go ?_)
  refine v_w (ws' := [(m0, .inr (5, [.ref ma, .int (nI nt), .int (nI pp), .int (th), .ref mp, .int (rn), .int (ro), .int (to), .int (wt), .int (hn), .int (ho), .ref mt, .int (nI tl), .int (fa), .int (bk), .int (ba), .int (spt), .int (hre), .int (tok), .int (val), .ref mc, .ref ml, .ref mn, .int (nI se), .ref mk, .ref mg, .ref mh, .ref mq, .int (tn)])), (mg, .inl (E.2.1 1, 4, .inl (lg))), (mh, .inl (E.2.1 1, 4, .inl (lh_))), (mq, .inl (E.2.1 1, 160, .inl (cq)))]) rfl ?_
  refine v_st (st' := [.int (if ¬ (Int32.toInt64 (nI j)) < 0 ∧ ¬ 3 < (Int32.toInt64 (nI j)) then 1 else 0)]) rfl ?_
  refine v_st (st' := [.int (if ¬ nI j < 0 ∧ ¬ 3 < nI j then 1 else 0)]) (ite_st (inK (a := 0) (b := 3)) _) ?_
  refine v_ifB_eq (pc := 9) 30 dX5_sheet_9 (by decide) (fun c_9 => ?_) (fun c_9 => ?_)
  · skip
    refine v_iconst (pc := 30) (v := -1) dX5_sheet_30 (by decide) ?_
    refine v_iret (pc := 31) dX5_sheet_31 rfl ⟨rfl, rfl⟩ (Rt.i2 ?_ ?_)
    · skip
      exact absurd ⟨nI_pos (by omega), fun z => absurd ((nI_ltI (a := 3) (by omega) (by omega)).mp z) (by omega)⟩ c_9
    · skip
      exact absurd ⟨nI_pos (by omega), fun z => absurd ((nI_ltI (a := 3) (by omega) (by omega)).mp z) (by omega)⟩ c_9
  · skip
    refine v_iload_n (pc := 12) 2 dX5_sheet_12 rfl rfl ?_
    refine v_i2l (pc := 13) dX5_sheet_13 ?_
    refine v_lconst (pc := 14) (v := 0) dX5_sheet_14 (by decide) ?_
    refine v_ldc2 (pc := 15) dX5_sheet_15 tb_948 ?_
    refine v_callS (pc := 18) (rest := []) [] lk_880 (c_X5_in l E (Int32.toInt64 (x)) 0 2) dX5_sheet_18 rfl rfl (Nat.le_of_ble_eq_true rfl) (by decide) (by decide) rfl (Rt.len rfl) (Rt.go ?_)
    refine v_w (ws' := [(m0, .inr (5, [.ref ma, .int (nI nt), .int (nI pp), .int (th), .ref mp, .int (rn), .int (ro), .int (to), .int (wt), .int (hn), .int (ho), .ref mt, .int (nI tl), .int (fa), .int (bk), .int (ba), .int (spt), .int (hre), .int (tok), .int (val), .ref mc, .ref ml, .ref mn, .int (nI se), .ref mk, .ref mg, .ref mh, .ref mq, .int (tn)])), (mg, .inl (E.2.1 1, 4, .inl (lg))), (mh, .inl (E.2.1 1, 4, .inl (lh_))), (mq, .inl (E.2.1 1, 160, .inl (cq)))]) rfl ?_
    refine v_st (st' := [.int (if ¬ (Int32.toInt64 (x)) < 0 ∧ ¬ 2 < (Int32.toInt64 (x)) then 1 else 0)]) rfl ?_
    refine v_st (st' := [.int (if ¬ x < 0 ∧ ¬ 2 < x then 1 else 0)]) (ite_st (inK (a := 0) (b := 2)) _) ?_
    refine v_ifB_eq (pc := 21) 30 dX5_sheet_21 (by decide) (fun c_21 => ?_) (fun c_21 => ?_)
    · skip
      refine v_iconst (pc := 30) (v := -1) dX5_sheet_30 (by decide) ?_
      refine v_iret (pc := 31) dX5_sheet_31 rfl ⟨rfl, rfl⟩ (Rt.i2 ?_ ?_)
      · skip
        first | simp only [if_pos c_9, if_neg c_21] | rfl
      · skip
        first | simp only [if_pos c_9, if_neg c_21] | rfl
    · skip
      refine v_iload_n (pc := 24) 3 dX5_sheet_24 rfl rfl ?_
      refine v_bipush (pc := 25) (v := 40) dX5_sheet_25 (by decide) ?_
      refine v_icmp_le (pc := 27) 32 dX5_sheet_27 (by decide) (fun c_27 => ?_) (fun c_27 => ?_)
      · skip
        refine v_iload_n (pc := 32) 3 dX5_sheet_32 rfl rfl ?_
        refine v_if_ge (pc := 33) 39 dX5_sheet_33 (by decide) (fun c_33 => ?_) (fun c_33 => ?_)
        · skip
          refine v_aload_n (pc := 39) 0 dX5_sheet_39 rfl rfl ?_
          refine gf_812 (pc := 40) 0 dX5_sheet_40 rfl rfl ?_
          refine v_iload_n (pc := 43) 1 dX5_sheet_43 rfl rfl ?_
          refine v_iload_n (pc := 44) 2 dX5_sheet_44 rfl rfl ?_
          refine v_iastN (pc := 45) (ws' := [(m0, .inr (5, [.ref ma, .int (nI nt), .int (nI pp), .int (th), .ref mp, .int (rn), .int (ro), .int (to), .int (wt), .int (hn), .int (ho), .ref mt, .int (nI tl), .int (fa), .int (bk), .int (ba), .int (spt), .int (hre), .int (tok), .int (val), .ref mc, .ref ml, .ref mn, .int (nI se), .ref mk, .ref mg, .ref mh, .ref mq, .int (tn)])), (mg, .inl (E.2.1 1, 4, .inl (upd (lg) (j) (x)))), (mh, .inl (E.2.1 1, 4, .inl (lh_))), (mq, .inl (E.2.1 1, 160, .inl (cq)))]) 1 1 (j) dX5_sheet_45 rfl rfl rfl (by omega) (by decide) rfl ?_
          refine v_aload_n (pc := 46) 0 dX5_sheet_46 rfl rfl ?_
          refine gf_813 (pc := 47) 0 dX5_sheet_47 rfl rfl ?_
          refine v_iload_n (pc := 50) 1 dX5_sheet_50 rfl rfl ?_
          refine v_iload_n (pc := 51) 3 dX5_sheet_51 rfl rfl ?_
          refine v_iastN (pc := 52) (ws' := [(m0, .inr (5, [.ref ma, .int (nI nt), .int (nI pp), .int (th), .ref mp, .int (rn), .int (ro), .int (to), .int (wt), .int (hn), .int (ho), .ref mt, .int (nI tl), .int (fa), .int (bk), .int (ba), .int (spt), .int (hre), .int (tok), .int (val), .ref mc, .ref ml, .ref mn, .int (nI se), .ref mk, .ref mg, .ref mh, .ref mq, .int (tn)])), (mg, .inl (E.2.1 1, 4, .inl (upd (lg) (j) (x)))), (mh, .inl (E.2.1 1, 4, .inl (upd (lh_) (j) (n)))), (mq, .inl (E.2.1 1, 160, .inl (cq)))]) 2 1 (j) dX5_sheet_52 rfl rfl rfl (by omega) (by decide) rfl ?_
          refine v_iconst (pc := 53) (v := 0) dX5_sheet_53 (by decide) ?_
          refine v_istore (pc := 54) (lv' := [(4, .int (0)), (0, .ref m0), (1, .int (nI j)), (2, .int (x)), (3, .int (n))]) dX5_sheet_54 (by decide) rfl ?_
          have loop_56 : ∀ (D_56 : Nat) (i : Nat) (g : Nat → Int32), 40 - i < D_56 → (i ≤ 40) → (g = flS cq (40 * j) i) → V l E RX5 cX5_sheet 5 (Option.some FieldType.int) "sheet" ({ frames := 1, cells := 0, slots := 0, locals := 25 }) [(m0, .inr (5, [.ref ma, .int (nI nt), .int (nI pp), .int (th), .ref mp, .int (rn), .int (ro), .int (to), .int (wt), .int (hn), .int (ho), .ref mt, .int (nI tl), .int (fa), .int (bk), .int (ba), .int (spt), .int (hre), .int (tok), .int (val), .ref mc, .ref ml, .ref mn, .int (nI se), .ref mk, .ref mg, .ref mh, .ref mq, .int (tn)])), (mg, .inl (E.2.1 1, 4, .inl (lg))), (mh, .inl (E.2.1 1, 4, .inl (lh_))), (mq, .inl (E.2.1 1, 160, .inl (cq)))] 0 0 (Rt (some (.int (if ¬ x < 0 ∧ ¬ 2 < x then (if n ≤ 40 then (if 0 ≤ n then 1 else -14) else -1) else -1))) [(m0, .inr (5, [.ref ma, .int (nI nt), .int (nI pp), .int (th), .ref mp, .int (rn), .int (ro), .int (to), .int (wt), .int (hn), .int (ho), .ref mt, .int (nI tl), .int (fa), .int (bk), .int (ba), .int (spt), .int (hre), .int (tok), .int (val), .ref mc, .ref ml, .ref mn, .int (nI se), .ref mk, .ref mg, .ref mh, .ref mq, .int (tn)])), (mg, .inl (E.2.1 1, 4, .inl (if ¬ x < 0 ∧ ¬ 2 < x then (if n ≤ 40 then (if 0 ≤ n then upd lg j x else lg) else lg) else lg))), (mh, .inl (E.2.1 1, 4, .inl (if ¬ x < 0 ∧ ¬ 2 < x then (if n ≤ 40 then (if 0 ≤ n then upd lh_ j n else lh_) else lh_) else lh_))), (mq, .inl (E.2.1 1, 160, .inl (if ¬ x < 0 ∧ ¬ 2 < x then (if n ≤ 40 then (if 0 ≤ n then flS cq (40 * j) 40 else cq) else cq) else cq)))]) 0 0 56 [(4, .int (nI i)), (0, .ref m0), (1, .int (nI j)), (2, .int (x)), (3, .int (n))] [] [(m0, .inr (5, [.ref ma, .int (nI nt), .int (nI pp), .int (th), .ref mp, .int (rn), .int (ro), .int (to), .int (wt), .int (hn), .int (ho), .ref mt, .int (nI tl), .int (fa), .int (bk), .int (ba), .int (spt), .int (hre), .int (tok), .int (val), .ref mc, .ref ml, .ref mn, .int (nI se), .ref mk, .ref mg, .ref mh, .ref mq, .int (tn)])), (mg, .inl (E.2.1 1, 4, .inl (upd (lg) (j) (x)))), (mh, .inl (E.2.1 1, 4, .inl (upd (lh_) (j) (n)))), (mq, .inl (E.2.1 1, 160, .inl (g)))] := by
            intro D_56
            induction D_56 with
            | zero => intro i g h; exact absurd h (Nat.not_lt_zero _)
            | succ D_56 ih_56 =>
              intro i g hmu_56 h_56_0 h_56_1
              refine v_iload (pc := 56) 0 dX5_sheet_56 rfl ?_
              refine v_bipush (pc := 58) (v := 40) dX5_sheet_58 (by decide) ?_
              refine v_cmpN_ge (pc := 60) (a := i) (b := 40) 82 dX5_sheet_60 (by decide) (by omega) (by omega) (fun c_60 => ?_) (fun c_60 => ?_)
              · skip
                refine v_iconst (pc := 82) (v := 1) dX5_sheet_82 (by decide) ?_
                refine v_iret (pc := 83) dX5_sheet_83 rfl ⟨rfl, rfl⟩ (Rt.i2 ?_ ?_)
                · skip
                  rw [if_pos c_21, if_pos c_27, if_pos c_33]
                · skip
                  obtain rfl : i = 40 := by omega
                  simp only [if_pos c_21, if_pos c_27, if_pos c_33, h_56_1]
              · skip
                refine v_aload_n (pc := 63) 1 dX5_sheet_63 rfl rfl ?_
                refine gf_814 (pc := 64) 0 dX5_sheet_64 rfl rfl ?_
                refine v_bipush (pc := 67) (v := 40) dX5_sheet_67 (by decide) ?_
                refine v_iload_n (pc := 69) 2 dX5_sheet_69 rfl rfl ?_
                refine v_imul (pc := 70) dX5_sheet_70 ?_
                refine v_st (st' := [.int (nI (40 * j)), .ref mq]) (congrArg (fun z => Value.int z :: _) (pk_mul 40 j)) ?_
                refine v_iload (pc := 71) 0 dX5_sheet_71 rfl ?_
                refine v_iadd (pc := 73) dX5_sheet_73 ?_
                refine v_st (st' := [.int (nI (40 * j + i)), .ref mq]) (congrArg (fun z => Value.int z :: _) (nI_add (40 * j) i)) ?_
                refine v_iconst (pc := 74) (v := 0) dX5_sheet_74 (by decide) ?_
                refine v_iastN (pc := 75) (ws' := [(m0, .inr (5, [.ref ma, .int (nI nt), .int (nI pp), .int (th), .ref mp, .int (rn), .int (ro), .int (to), .int (wt), .int (hn), .int (ho), .ref mt, .int (nI tl), .int (fa), .int (bk), .int (ba), .int (spt), .int (hre), .int (tok), .int (val), .ref mc, .ref ml, .ref mn, .int (nI se), .ref mk, .ref mg, .ref mh, .ref mq, .int (tn)])), (mg, .inl (E.2.1 1, 4, .inl (upd (lg) (j) (x)))), (mh, .inl (E.2.1 1, 4, .inl (upd (lh_) (j) (n)))), (mq, .inl (E.2.1 1, 160, .inl (upd (g) (40 * j + i) (0))))]) 3 1 (40 * j + i) dX5_sheet_75 rfl rfl rfl (by omega) (by decide) rfl ?_
                refine v_iinc (pc := 76) (v := nI (i + 1)) (lv' := [(4, .int (nI (i + 1))), (0, .ref m0), (1, .int (nI j)), (2, .int (x)), (3, .int (n))]) 0 dX5_sheet_76 rfl (nI_inc (i) 1) (by decide) rfl ?_
                refine v_goto (pc := 79) 56 dX5_sheet_79 (by decide) ?_
                refine v_lv (lv' := [(4, .int (nI (i + 1))), (0, .ref m0), (1, .int (nI j)), (2, .int (x)), (3, .int (n))]) [0, 1, 2, 3, 4] rfl ?_
                refine ih_56 (i + 1) (upd (g) (40 * j + i) (0)) (by omega) ?_ ?_
                · omega
                · rw [h_56_1]; exact flS_s cq (40 * j) i
          refine v_lv (lv' := [(4, .int (nI 0)), (0, .ref m0), (1, .int (nI j)), (2, .int (x)), (3, .int (n))]) [0, 1, 2, 3, 4] rfl ?_
          refine loop_56 ((40 - 0) + 1) 0 cq (Nat.lt_succ_self _) ?_ ?_
          · omega
          · exact (flS_0 cq (40 * j)).symm
        · skip
          refine v_bipush (pc := 36) (v := -14) dX5_sheet_36 (by decide) ?_
          refine v_iret (pc := 38) dX5_sheet_38 rfl ⟨rfl, rfl⟩ (Rt.i2 ?_ ?_)
          · skip
            first | simp only [if_pos c_9, if_pos c_21, if_pos c_27, if_neg c_33] | rfl
          · skip
            first | simp only [if_pos c_9, if_pos c_21, if_pos c_27, if_neg c_33] | rfl
      · skip
        refine v_iconst (pc := 30) (v := -1) dX5_sheet_30 (by decide) ?_
        refine v_iret (pc := 31) dX5_sheet_31 rfl ⟨rfl, rfl⟩ (Rt.i2 ?_ ?_)
        · skip
          first | simp only [if_pos c_9, if_pos c_21, if_neg c_27] | rfl
        · skip
          first | simp only [if_pos c_9, if_pos c_21, if_neg c_27] | rfl
theorem cB_X5_sheet (l : Launch) (E : VE) (m0 : Nat) (ma : Nat) (mp : Nat) (mt : Nat) (mc : Nat) (ml : Nat) (mn : Nat) (mk : Nat) (mg : Nat) (mh : Nat) (mq : Nat) (nt : Nat) (pp : Nat) (tl : Nat) (se : Nat) (th : Int32) (rn : Int32) (ro : Int32) (to : Int32) (wt : Int32) (hn : Int32) (ho : Int32) (fa : Int32) (bk : Int32) (ba : Int32) (spt : Int32) (hre : Int32) (tok : Int32) (val : Int32) (tn : Int32) (k : Int32) (x : Int32) (n : Int32) (h_k : ¬ (¬ k < 0 ∧ ¬ 3 < k)) : Ct l E yX5_sheet cX5_sheet 5 (Option.some FieldType.int) 1 25 0 0 [.ref m0, .int (k), .int (x), .int (n)] [(m0, .inr (5, [.ref ma, .int (nI nt), .int (nI pp), .int (th), .ref mp, .int (rn), .int (ro), .int (to), .int (wt), .int (hn), .int (ho), .ref mt, .int (nI tl), .int (fa), .int (bk), .int (ba), .int (spt), .int (hre), .int (tok), .int (val), .ref mc, .ref ml, .ref mn, .int (nI se), .ref mk, .ref mg, .ref mh, .ref mq, .int (tn)]))] (Rt (some (.int (-1))) [(m0, .inr (5, [.ref ma, .int (nI nt), .int (nI pp), .int (th), .ref mp, .int (rn), .int (ro), .int (to), .int (wt), .int (hn), .int (ho), .ref mt, .int (nI tl), .int (fa), .int (bk), .int (ba), .int (spt), .int (hre), .int (tok), .int (val), .ref mc, .ref ml, .ref mn, .int (nI se), .ref mk, .ref mg, .ref mh, .ref mq, .int (tn)]))]) := by
  refine Ct.of (own := RX5) (nm := "sheet") (lv := [(0, .ref m0), (1, .int (k)), (2, .int (x)), (3, .int (n))]) (by decide) rfl rfl (Nat.le_of_ble_eq_true rfl) rfl ?_
  refine v_iload_n (pc := 0) 1 dX5_sheet_0 rfl rfl ?_
  refine v_i2l (pc := 1) dX5_sheet_1 ?_
  refine v_lconst (pc := 2) (v := 0) dX5_sheet_2 (by decide) ?_
  refine v_ldc2 (pc := 3) dX5_sheet_3 tb_1161 ?_
  refine v_callS (pc := 6) (rest := []) [] lk_880 (c_X5_in l E (Int32.toInt64 (k)) 0 3) dX5_sheet_6 rfl rfl (Nat.le_of_ble_eq_true rfl) (by decide) (by decide) rfl (Rt.len rfl) (Rt.go ?_)
  refine v_w (ws' := [(m0, .inr (5, [.ref ma, .int (nI nt), .int (nI pp), .int (th), .ref mp, .int (rn), .int (ro), .int (to), .int (wt), .int (hn), .int (ho), .ref mt, .int (nI tl), .int (fa), .int (bk), .int (ba), .int (spt), .int (hre), .int (tok), .int (val), .ref mc, .ref ml, .ref mn, .int (nI se), .ref mk, .ref mg, .ref mh, .ref mq, .int (tn)]))]) rfl ?_
  refine v_st (st' := [.int (if ¬ (Int32.toInt64 (k)) < 0 ∧ ¬ 3 < (Int32.toInt64 (k)) then 1 else 0)]) rfl ?_
  refine v_st (st' := [.int (if ¬ k < 0 ∧ ¬ 3 < k then 1 else 0)]) (ite_st (inK (a := 0) (b := 3)) _) ?_
  refine v_ifB_eq (pc := 9) 30 dX5_sheet_9 (by decide) (fun c_9 => ?_) (fun c_9 => ?_)
  · skip
    refine v_iconst (pc := 30) (v := -1) dX5_sheet_30 (by decide) ?_
    refine v_iret (pc := 31) dX5_sheet_31 rfl ⟨rfl, rfl⟩ (Rt.i ?_)
    first | simp only [if_neg c_9] | rfl
  · skip
    exact absurd c_9 h_k
theorem cB_X5_lay (l : Launch) (E : VE) (m0 : Nat) (ma : Nat) (mp : Nat) (mt : Nat) (mc : Nat) (ml : Nat) (mn : Nat) (mk : Nat) (mg : Nat) (mh : Nat) (mq : Nat) (nt : Nat) (pp : Nat) (tl : Nat) (se : Nat) (th : Int32) (rn : Int32) (ro : Int32) (to : Int32) (wt : Int32) (hn : Int32) (ho : Int32) (fa : Int32) (bk : Int32) (ba : Int32) (spt : Int32) (hre : Int32) (tok : Int32) (val : Int32) (tn : Int32) (k : Int32) (i : Int32) (v : Int32) (h_k : ¬ (¬ k < 0 ∧ ¬ 3 < k)) : Ct l E yX5_lay cX5_lay 4 (Option.some FieldType.int) 1 25 0 0 [.ref m0, .int (k), .int (i), .int (v)] [(m0, .inr (5, [.ref ma, .int (nI nt), .int (nI pp), .int (th), .ref mp, .int (rn), .int (ro), .int (to), .int (wt), .int (hn), .int (ho), .ref mt, .int (nI tl), .int (fa), .int (bk), .int (ba), .int (spt), .int (hre), .int (tok), .int (val), .ref mc, .ref ml, .ref mn, .int (nI se), .ref mk, .ref mg, .ref mh, .ref mq, .int (tn)]))] (Rt (some (.int (-1))) [(m0, .inr (5, [.ref ma, .int (nI nt), .int (nI pp), .int (th), .ref mp, .int (rn), .int (ro), .int (to), .int (wt), .int (hn), .int (ho), .ref mt, .int (nI tl), .int (fa), .int (bk), .int (ba), .int (spt), .int (hre), .int (tok), .int (val), .ref mc, .ref ml, .ref mn, .int (nI se), .ref mk, .ref mg, .ref mh, .ref mq, .int (tn)]))]) := by
  refine Ct.of (own := RX5) (nm := "lay") (lv := [(0, .ref m0), (1, .int (k)), (2, .int (i)), (3, .int (v))]) (by decide) rfl rfl (Nat.le_of_ble_eq_true rfl) rfl ?_
  refine v_iload_n (pc := 0) 1 dX5_lay_0 rfl rfl ?_
  refine v_i2l (pc := 1) dX5_lay_1 ?_
  refine v_lconst (pc := 2) (v := 0) dX5_lay_2 (by decide) ?_
  refine v_ldc2 (pc := 3) dX5_lay_3 tb_1161 ?_
  refine v_callS (pc := 6) (rest := []) [] lk_880 (c_X5_in l E (Int32.toInt64 (k)) 0 3) dX5_lay_6 rfl rfl (Nat.le_of_ble_eq_true rfl) (by decide) (by decide) rfl (Rt.len rfl) (Rt.go ?_)
  refine v_w (ws' := [(m0, .inr (5, [.ref ma, .int (nI nt), .int (nI pp), .int (th), .ref mp, .int (rn), .int (ro), .int (to), .int (wt), .int (hn), .int (ho), .ref mt, .int (nI tl), .int (fa), .int (bk), .int (ba), .int (spt), .int (hre), .int (tok), .int (val), .ref mc, .ref ml, .ref mn, .int (nI se), .ref mk, .ref mg, .ref mh, .ref mq, .int (tn)]))]) rfl ?_
  refine v_st (st' := [.int (if ¬ (Int32.toInt64 (k)) < 0 ∧ ¬ 3 < (Int32.toInt64 (k)) then 1 else 0)]) rfl ?_
  refine v_st (st' := [.int (if ¬ k < 0 ∧ ¬ 3 < k then 1 else 0)]) (ite_st (inK (a := 0) (b := 3)) _) ?_
  refine v_ifB_ne (pc := 9) 14 dX5_lay_9 (by decide) (fun c_9 => ?_) (fun c_9 => ?_)
  · skip
    exact absurd c_9 h_k
  · skip
    refine v_iconst (pc := 12) (v := -1) dX5_lay_12 (by decide) ?_
    refine v_iret (pc := 13) dX5_lay_13 rfl ⟨rfl, rfl⟩ (Rt.i ?_)
    first | simp only [if_neg c_9] | rfl
theorem c_X5_lay (l : Launch) (E : VE) (m0 : Nat) (ma : Nat) (mp : Nat) (mt : Nat) (mc : Nat) (ml : Nat) (mn : Nat) (mk : Nat) (mg : Nat) (mh : Nat) (mq : Nat) (nt : Nat) (pp : Nat) (tl : Nat) (se : Nat) (th : Int32) (rn : Int32) (ro : Int32) (to : Int32) (wt : Int32) (hn : Int32) (ho : Int32) (fa : Int32) (bk : Int32) (ba : Int32) (spt : Int32) (hre : Int32) (tok : Int32) (val : Int32) (tn : Int32) (lg : Nat → Int32) (lh_ : Nat → Int32) (cq : Nat → Int32) (j : Nat) (sz : Nat) (i : Int32) (v : Int32) (h_j : j < 4) (h_sz : sz ≤ 40) (h_l : lh_ j = nI sz) : Ct l E yX5_lay cX5_lay 4 (Option.some FieldType.int) 1 25 0 0 [.ref m0, .int (nI j), .int (i), .int (v)] [(m0, .inr (5, [.ref ma, .int (nI nt), .int (nI pp), .int (th), .ref mp, .int (rn), .int (ro), .int (to), .int (wt), .int (hn), .int (ho), .ref mt, .int (nI tl), .int (fa), .int (bk), .int (ba), .int (spt), .int (hre), .int (tok), .int (val), .ref mc, .ref ml, .ref mn, .int (nI se), .ref mk, .ref mg, .ref mh, .ref mq, .int (tn)])), (mg, .inl (E.2.1 1, 4, .inl (lg))), (mh, .inl (E.2.1 1, 4, .inl (lh_))), (mq, .inl (E.2.1 1, 160, .inl (cq)))] (Rt (some (.int (if lg j = -4 then -11 else if okN i sz then 1 else -12))) [(m0, .inr (5, [.ref ma, .int (nI nt), .int (nI pp), .int (th), .ref mp, .int (rn), .int (ro), .int (to), .int (wt), .int (hn), .int (ho), .ref mt, .int (nI tl), .int (fa), .int (bk), .int (ba), .int (spt), .int (hre), .int (tok), .int (val), .ref mc, .ref ml, .ref mn, .int (nI se), .ref mk, .ref mg, .ref mh, .ref mq, .int (tn)])), (mg, .inl (E.2.1 1, 4, .inl (lg))), (mh, .inl (E.2.1 1, 4, .inl (lh_))), (mq, .inl (E.2.1 1, 160, .inl (if lg j = -4 then cq else if okN i sz then upd cq (40 * j + i.toNatClampNeg) (layV (lg j) v) else cq)))]) := by
  refine Ct.of (own := RX5) (nm := "lay") (lv := [(0, .ref m0), (1, .int (nI j)), (2, .int (i)), (3, .int (v))]) (by decide) rfl rfl (Nat.le_of_ble_eq_true rfl) rfl ?_
  refine v_iload_n (pc := 0) 1 dX5_lay_0 rfl rfl ?_
  refine v_i2l (pc := 1) dX5_lay_1 ?_
  refine v_lconst (pc := 2) (v := 0) dX5_lay_2 (by decide) ?_
  refine v_ldc2 (pc := 3) dX5_lay_3 tb_1161 ?_
  refine v_callS (pc := 6) (rest := []) [] lk_880 (c_X5_in l E (Int32.toInt64 (nI j)) 0 3) dX5_lay_6 rfl rfl (Nat.le_of_ble_eq_true rfl) (by decide) (by decide) rfl (Rt.len rfl) (Rt.go ?_)
  refine v_w (ws' := [(m0, .inr (5, [.ref ma, .int (nI nt), .int (nI pp), .int (th), .ref mp, .int (rn), .int (ro), .int (to), .int (wt), .int (hn), .int (ho), .ref mt, .int (nI tl), .int (fa), .int (bk), .int (ba), .int (spt), .int (hre), .int (tok), .int (val), .ref mc, .ref ml, .ref mn, .int (nI se), .ref mk, .ref mg, .ref mh, .ref mq, .int (tn)])), (mg, .inl (E.2.1 1, 4, .inl (lg))), (mh, .inl (E.2.1 1, 4, .inl (lh_))), (mq, .inl (E.2.1 1, 160, .inl (cq)))]) rfl ?_
  refine v_st (st' := [.int (if ¬ (Int32.toInt64 (nI j)) < 0 ∧ ¬ 3 < (Int32.toInt64 (nI j)) then 1 else 0)]) rfl ?_
  refine v_st (st' := [.int (if ¬ nI j < 0 ∧ ¬ 3 < nI j then 1 else 0)]) (ite_st (inK (a := 0) (b := 3)) _) ?_
  refine v_ifB_ne (pc := 9) 14 dX5_lay_9 (by decide) (fun c_9 => ?_) (fun c_9 => ?_)
  · skip
    refine v_aload_n (pc := 14) 0 dX5_lay_14 rfl rfl ?_
    refine gf_812 (pc := 15) 0 dX5_lay_15 rfl rfl ?_
    refine v_iload_n (pc := 18) 1 dX5_lay_18 rfl rfl ?_
    refine v_ialdN (pc := 19) 1 1 (j) dX5_lay_19 rfl rfl rfl (by omega) (by decide) ?_
    refine v_bipush (pc := 20) (v := -4) dX5_lay_20 (by decide) ?_
    refine v_icmp_ne (pc := 22) 28 dX5_lay_22 (by decide) (fun c_22 => ?_) (fun c_22 => ?_)
    · skip
      refine v_iload_n (pc := 28) 2 dX5_lay_28 rfl rfl ?_
      refine v_i2l (pc := 29) dX5_lay_29 ?_
      refine v_lconst (pc := 30) (v := 0) dX5_lay_30 (by decide) ?_
      refine v_aload_n (pc := 31) 0 dX5_lay_31 rfl rfl ?_
      refine gf_813 (pc := 32) 0 dX5_lay_32 rfl rfl ?_
      refine v_iload_n (pc := 35) 1 dX5_lay_35 rfl rfl ?_
      refine v_ialdN (pc := 36) 2 1 (j) dX5_lay_36 rfl rfl rfl (by omega) (by decide) ?_
      refine v_st (st' := [.int (nI sz), .long (0), .long (Int32.toInt64 (i))]) (by rw [h_l]) ?_
      refine v_iconst (pc := 37) (v := 1) dX5_lay_37 (by decide) ?_
      refine v_isub (pc := 38) dX5_lay_38 ?_
      refine v_i2l (pc := 39) dX5_lay_39 ?_
      refine v_callS (pc := 40) (rest := []) [] lk_880 (c_X5_in l E (Int32.toInt64 (i)) 0 (Int32.toInt64 ((nI sz) - (1)))) dX5_lay_40 rfl rfl (Nat.le_of_ble_eq_true rfl) (by decide) (by decide) rfl (Rt.len rfl) (Rt.go ?_)
      refine v_w (ws' := [(m0, .inr (5, [.ref ma, .int (nI nt), .int (nI pp), .int (th), .ref mp, .int (rn), .int (ro), .int (to), .int (wt), .int (hn), .int (ho), .ref mt, .int (nI tl), .int (fa), .int (bk), .int (ba), .int (spt), .int (hre), .int (tok), .int (val), .ref mc, .ref ml, .ref mn, .int (nI se), .ref mk, .ref mg, .ref mh, .ref mq, .int (tn)])), (mg, .inl (E.2.1 1, 4, .inl (lg))), (mh, .inl (E.2.1 1, 4, .inl (lh_))), (mq, .inl (E.2.1 1, 160, .inl (cq)))]) rfl ?_
      refine v_st (st' := [.int (if ¬ (Int32.toInt64 (i)) < 0 ∧ ¬ (Int32.toInt64 ((nI sz) - (1))) < (Int32.toInt64 (i)) then 1 else 0)]) rfl ?_
      refine v_st (st' := [.int (if okN i sz then 1 else 0)]) (ite_st ((inK (a := 0) (b := nI sz - 1)).trans (in_okN (by omega))) _) ?_
      refine v_ifB_ne (pc := 43) 49 dX5_lay_43 (by decide) (fun c_43 => ?_) (fun c_43 => ?_)
      · skip
        obtain ⟨p, hp, rfl⟩ := okN_ex c_43 (by omega)
        have hpc : (nI p).toNatClampNeg = p := nI_clamp (by omega)
        refine v_aload_n (pc := 49) 0 dX5_lay_49 rfl rfl ?_
        refine gf_814 (pc := 50) 0 dX5_lay_50 rfl rfl ?_
        refine v_bipush (pc := 53) (v := 40) dX5_lay_53 (by decide) ?_
        refine v_iload_n (pc := 55) 1 dX5_lay_55 rfl rfl ?_
        refine v_imul (pc := 56) dX5_lay_56 ?_
        refine v_st (st' := [.int (nI (40 * j)), .ref mq]) (congrArg (fun z => Value.int z :: _) (pk_mul 40 j)) ?_
        refine v_iload_n (pc := 57) 2 dX5_lay_57 rfl rfl ?_
        refine v_iadd (pc := 58) dX5_lay_58 ?_
        refine v_st (st' := [.int (nI (40 * j + p)), .ref mq]) (congrArg (fun z => Value.int z :: _) (nI_add (40 * j) p)) ?_
        refine v_aload_n (pc := 59) 0 dX5_lay_59 rfl rfl ?_
        refine gf_812 (pc := 60) 0 dX5_lay_60 rfl rfl ?_
        refine v_iload_n (pc := 63) 1 dX5_lay_63 rfl rfl ?_
        refine v_ialdN (pc := 64) 1 1 (j) dX5_lay_64 rfl rfl rfl (by omega) (by decide) ?_
        refine v_if_ne (pc := 65) 78 dX5_lay_65 (by decide) (fun c_65 => ?_) (fun c_65 => ?_)
        · skip
          refine v_aload_n (pc := 78) 0 dX5_lay_78 rfl rfl ?_
          refine gf_812 (pc := 79) 0 dX5_lay_79 rfl rfl ?_
          refine v_iload_n (pc := 82) 1 dX5_lay_82 rfl rfl ?_
          refine v_ialdN (pc := 83) 1 1 (j) dX5_lay_83 rfl rfl rfl (by omega) (by decide) ?_
          refine v_iconst (pc := 84) (v := 1) dX5_lay_84 (by decide) ?_
          refine v_icmp_ne (pc := 85) 98 dX5_lay_85 (by decide) (fun c_85 => ?_) (fun c_85 => ?_)
          · skip
            refine v_iload_n (pc := 98) 3 dX5_lay_98 rfl rfl ?_
            refine v_iastN (pc := 99) (ws' := [(m0, .inr (5, [.ref ma, .int (nI nt), .int (nI pp), .int (th), .ref mp, .int (rn), .int (ro), .int (to), .int (wt), .int (hn), .int (ho), .ref mt, .int (nI tl), .int (fa), .int (bk), .int (ba), .int (spt), .int (hre), .int (tok), .int (val), .ref mc, .ref ml, .ref mn, .int (nI se), .ref mk, .ref mg, .ref mh, .ref mq, .int (tn)])), (mg, .inl (E.2.1 1, 4, .inl (lg))), (mh, .inl (E.2.1 1, 4, .inl (lh_))), (mq, .inl (E.2.1 1, 160, .inl (upd (cq) (40 * j + p) (v))))]) 3 1 (40 * j + p) dX5_lay_99 rfl rfl rfl (by omega) (by decide) rfl ?_
            refine v_iconst (pc := 100) (v := 1) dX5_lay_100 (by decide) ?_
            refine v_iret (pc := 101) dX5_lay_101 rfl ⟨rfl, rfl⟩ (Rt.i2 ?_ ?_)
            · skip
              rw [if_neg c_22, if_pos c_43]
            · skip
              simp only [if_neg c_22, if_pos c_43, hpc]; unfold layV; simp only [if_neg c_65, if_neg c_85]
          · skip
            refine v_iload_n (pc := 88) 3 dX5_lay_88 rfl rfl ?_
            refine v_bipush (pc := 89) (v := 16) dX5_lay_89 (by decide) ?_
            refine v_ishl (pc := 91) dX5_lay_91 ?_
            refine v_bipush (pc := 92) (v := 16) dX5_lay_92 (by decide) ?_
            refine v_ishr (pc := 94) dX5_lay_94 ?_
            refine v_goto (pc := 95) 99 dX5_lay_95 (by decide) ?_
            refine v_iastN (pc := 99) (ws' := [(m0, .inr (5, [.ref ma, .int (nI nt), .int (nI pp), .int (th), .ref mp, .int (rn), .int (ro), .int (to), .int (wt), .int (hn), .int (ho), .ref mt, .int (nI tl), .int (fa), .int (bk), .int (ba), .int (spt), .int (hre), .int (tok), .int (val), .ref mc, .ref ml, .ref mn, .int (nI se), .ref mk, .ref mg, .ref mh, .ref mq, .int (tn)])), (mg, .inl (E.2.1 1, 4, .inl (lg))), (mh, .inl (E.2.1 1, 4, .inl (lh_))), (mq, .inl (E.2.1 1, 160, .inl (upd (cq) (40 * j + p) (((v) <<< ((16) &&& 31)) >>> ((16) &&& 31)))))]) 3 1 (40 * j + p) dX5_lay_99 rfl rfl rfl (by omega) (by decide) rfl ?_
            refine v_iconst (pc := 100) (v := 1) dX5_lay_100 (by decide) ?_
            refine v_iret (pc := 101) dX5_lay_101 rfl ⟨rfl, rfl⟩ (Rt.i2 ?_ ?_)
            · skip
              rw [if_neg c_22, if_pos c_43]
            · skip
              simp only [if_neg c_22, if_pos c_43, hpc]; unfold layV; simp only [if_neg c_65, if_pos c_85]
        · skip
          refine v_iload_n (pc := 68) 3 dX5_lay_68 rfl rfl ?_
          refine v_bipush (pc := 69) (v := 24) dX5_lay_69 (by decide) ?_
          refine v_ishl (pc := 71) dX5_lay_71 ?_
          refine v_bipush (pc := 72) (v := 24) dX5_lay_72 (by decide) ?_
          refine v_ishr (pc := 74) dX5_lay_74 ?_
          refine v_goto (pc := 75) 99 dX5_lay_75 (by decide) ?_
          refine v_iastN (pc := 99) (ws' := [(m0, .inr (5, [.ref ma, .int (nI nt), .int (nI pp), .int (th), .ref mp, .int (rn), .int (ro), .int (to), .int (wt), .int (hn), .int (ho), .ref mt, .int (nI tl), .int (fa), .int (bk), .int (ba), .int (spt), .int (hre), .int (tok), .int (val), .ref mc, .ref ml, .ref mn, .int (nI se), .ref mk, .ref mg, .ref mh, .ref mq, .int (tn)])), (mg, .inl (E.2.1 1, 4, .inl (lg))), (mh, .inl (E.2.1 1, 4, .inl (lh_))), (mq, .inl (E.2.1 1, 160, .inl (upd (cq) (40 * j + p) (((v) <<< ((24) &&& 31)) >>> ((24) &&& 31)))))]) 3 1 (40 * j + p) dX5_lay_99 rfl rfl rfl (by omega) (by decide) rfl ?_
          refine v_iconst (pc := 100) (v := 1) dX5_lay_100 (by decide) ?_
          refine v_iret (pc := 101) dX5_lay_101 rfl ⟨rfl, rfl⟩ (Rt.i2 ?_ ?_)
          · skip
            rw [if_neg c_22, if_pos c_43]
          · skip
            simp only [if_neg c_22, if_pos c_43, hpc]; unfold layV; simp only [if_pos c_65]
      · skip
        refine v_bipush (pc := 46) (v := -12) dX5_lay_46 (by decide) ?_
        refine v_iret (pc := 48) dX5_lay_48 rfl ⟨rfl, rfl⟩ (Rt.i2 ?_ ?_)
        · skip
          rw [if_neg c_22, if_neg c_43]
        · skip
          simp only [if_neg c_22, if_neg c_43]
    · skip
      refine v_bipush (pc := 25) (v := -11) dX5_lay_25 (by decide) ?_
      refine v_iret (pc := 27) dX5_lay_27 rfl ⟨rfl, rfl⟩ (Rt.i2 ?_ ?_)
      · skip
        rw [if_pos c_22]
      · skip
        simp only [if_pos c_22]
  · skip
    refine v_iconst (pc := 12) (v := -1) dX5_lay_12 (by decide) ?_
    refine v_iret (pc := 13) dX5_lay_13 rfl ⟨rfl, rfl⟩ (Rt.i2 ?_ ?_)
    · skip
      exact absurd ⟨nI_pos (by omega), fun z => absurd ((nI_ltI (a := 3) (by omega) (by omega)).mp z) (by omega)⟩ c_9
    · skip
      exact absurd ⟨nI_pos (by omega), fun z => absurd ((nI_ltI (a := 3) (by omega) (by omega)).mp z) (by omega)⟩ c_9
theorem c_X5_torn (l : Launch) (E : VE) (m0 : Nat) (ma : Nat) (mp : Nat) (mt : Nat) (mc : Nat) (ml : Nat) (mn : Nat) (mk : Nat) (mg : Nat) (mh : Nat) (mq : Nat) (nt : Nat) (pp : Nat) (tl : Nat) (se : Nat) (th : Int32) (rn : Int32) (ro : Int32) (to : Int32) (wt : Int32) (hn : Int32) (ho : Int32) (fa : Int32) (bk : Int32) (ba : Int32) (spt : Int32) (hre : Int32) (tok : Int32) (val : Int32) (tn : Int32) : Ct l E yX5_torn cX5_torn 1 (Option.some FieldType.int) 0 0 0 0 [.ref m0] [(m0, .inr (5, [.ref ma, .int (nI nt), .int (nI pp), .int (th), .ref mp, .int (rn), .int (ro), .int (to), .int (wt), .int (hn), .int (ho), .ref mt, .int (nI tl), .int (fa), .int (bk), .int (ba), .int (spt), .int (hre), .int (tok), .int (val), .ref mc, .ref ml, .ref mn, .int (nI se), .ref mk, .ref mg, .ref mh, .ref mq, .int (tn)]))] (Rt (some (.int (tn))) [(m0, .inr (5, [.ref ma, .int (nI nt), .int (nI pp), .int (th), .ref mp, .int (rn), .int (ro), .int (to), .int (wt), .int (hn), .int (ho), .ref mt, .int (nI tl), .int (fa), .int (bk), .int (ba), .int (spt), .int (hre), .int (tok), .int (val), .ref mc, .ref ml, .ref mn, .int (nI se), .ref mk, .ref mg, .ref mh, .ref mq, .int (tn)]))]) := by
  refine Ct.of (own := RX5) (nm := "torn") (lv := [(0, .ref m0)]) (by decide) rfl rfl (Nat.le_of_ble_eq_true rfl) rfl ?_
  refine v_aload_n (pc := 0) 0 dX5_torn_0 rfl rfl ?_
  refine gf_815 (pc := 1) 0 dX5_torn_1 rfl rfl ?_
  refine v_iret (pc := 4) dX5_torn_4 rfl ⟨rfl, rfl⟩ (Rt.i ?_)
  rfl
theorem c_X5_fault (l : Launch) (E : VE) (m0 : Nat) (ma : Nat) (mp : Nat) (mt : Nat) (mc : Nat) (ml : Nat) (mn : Nat) (mk : Nat) (mg : Nat) (mh : Nat) (mq : Nat) (nt : Nat) (pp : Nat) (tl : Nat) (se : Nat) (th : Int32) (rn : Int32) (ro : Int32) (to : Int32) (wt : Int32) (hn : Int32) (ho : Int32) (fa : Int32) (bk : Int32) (ba : Int32) (spt : Int32) (hre : Int32) (tok : Int32) (val : Int32) (tn : Int32) : Ct l E yX5_fault cX5_fault 1 (Option.some FieldType.int) 0 0 0 0 [.ref m0] [(m0, .inr (5, [.ref ma, .int (nI nt), .int (nI pp), .int (th), .ref mp, .int (rn), .int (ro), .int (to), .int (wt), .int (hn), .int (ho), .ref mt, .int (nI tl), .int (fa), .int (bk), .int (ba), .int (spt), .int (hre), .int (tok), .int (val), .ref mc, .ref ml, .ref mn, .int (nI se), .ref mk, .ref mg, .ref mh, .ref mq, .int (tn)]))] (Rt (some (.int (fa))) [(m0, .inr (5, [.ref ma, .int (nI nt), .int (nI pp), .int (th), .ref mp, .int (rn), .int (ro), .int (to), .int (wt), .int (hn), .int (ho), .ref mt, .int (nI tl), .int (fa), .int (bk), .int (ba), .int (spt), .int (hre), .int (tok), .int (val), .ref mc, .ref ml, .ref mn, .int (nI se), .ref mk, .ref mg, .ref mh, .ref mq, .int (tn)]))]) := by
  refine Ct.of (own := RX5) (nm := "fault") (lv := [(0, .ref m0)]) (by decide) rfl rfl (Nat.le_of_ble_eq_true rfl) rfl ?_
  refine v_aload_n (pc := 0) 0 dX5_fault_0 rfl rfl ?_
  refine gf_800 (pc := 1) 0 dX5_fault_1 rfl rfl ?_
  refine v_iret (pc := 4) dX5_fault_4 rfl ⟨rfl, rfl⟩ (Rt.i ?_)
  rfl
theorem c_X5_count (l : Launch) (E : VE) (m0 : Nat) (ma : Nat) (mp : Nat) (mt : Nat) (mc : Nat) (ml : Nat) (mn : Nat) (mk : Nat) (mg : Nat) (mh : Nat) (mq : Nat) (nt : Nat) (pp : Nat) (rl : Nat) (tl : Nat) (se : Nat) (th : Int32) (rn : Int32) (ro : Int32) (to : Int32) (wt : Int32) (hn : Int32) (ho : Int32) (fa : Int32) (bk : Int32) (ba : Int32) (spt : Int32) (hre : Int32) (tok : Int32) (val : Int32) (tn : Int32) (f : Nat → Int32) (km : Nat → Int32) (lg : Nat → Int32) (lh_ : Nat → Int32) (x : Int32) (h_rl : rl ≤ 8) (h_38 : f 38 = nI rl) : Ct l E yX5_count cX5_count 4 (Option.some FieldType.int) 1 24 0 0 [.ref m0, .int (x)] [(m0, .inr (5, [.ref ma, .int (nI nt), .int (nI pp), .int (th), .ref mp, .int (rn), .int (ro), .int (to), .int (wt), .int (hn), .int (ho), .ref mt, .int (nI tl), .int (fa), .int (bk), .int (ba), .int (spt), .int (hre), .int (tok), .int (val), .ref mc, .ref ml, .ref mn, .int (nI se), .ref mk, .ref mg, .ref mh, .ref mq, .int (tn)])), (ma, .inl (E.2.1 1, 172, .inl (f))), (mk, .inl (E.2.1 3, 2, .inl (km))), (mg, .inl (E.2.1 1, 4, .inl (lg))), (mh, .inl (E.2.1 1, 4, .inl (lh_)))] (Rt (some (.int (if x = 0 then nI se else if x = 1 then nI (kcN km 2) else if x = 2 then nI tl else if x = 3 then (if lg 0 = -4 then -4 else lh_ 0) else if x = 4 then btsK (f 41) 8 else if x = 5 then nI (cntM (hpM th f (f 41)) rl) else -1))) [(m0, .inr (5, [.ref ma, .int (nI nt), .int (nI pp), .int (th), .ref mp, .int (rn), .int (ro), .int (to), .int (wt), .int (hn), .int (ho), .ref mt, .int (nI tl), .int (fa), .int (bk), .int (ba), .int (spt), .int (hre), .int (tok), .int (val), .ref mc, .ref ml, .ref mn, .int (nI se), .ref mk, .ref mg, .ref mh, .ref mq, .int (tn)])), (ma, .inl (E.2.1 1, 172, .inl (f))), (mk, .inl (E.2.1 3, 2, .inl (km))), (mg, .inl (E.2.1 1, 4, .inl (lg))), (mh, .inl (E.2.1 1, 4, .inl (lh_)))]) := by
  refine Ct.of (own := RX5) (nm := "count") (lv := [(0, .ref m0), (1, .int (x))]) (by decide) rfl rfl (Nat.le_of_ble_eq_true rfl) rfl ?_
  refine v_iconst (pc := 0) (v := 0) dX5_count_0 (by decide) ?_
  refine v_istore_n (pc := 1) (lv' := [(2, .int (0)), (0, .ref m0), (1, .int (x))]) dX5_count_1 rfl (by decide) rfl ?_
  refine v_iconst (pc := 2) (v := 0) dX5_count_2 (by decide) ?_
  refine v_istore_n (pc := 3) (lv' := [(3, .int (0)), (2, .int (0)), (0, .ref m0), (1, .int (x))]) dX5_count_3 rfl (by decide) rfl ?_
  have loop_4 : ∀ (D_4 : Nat) (i : Nat) (a : Nat), rl - i < D_4 → (i ≤ rl) → (a = cntM (hpM th f (f 41)) i) → V l E RX5 cX5_count 4 (Option.some FieldType.int) "count" ({ frames := 1, cells := 0, slots := 0, locals := 24 }) [(m0, .inr (5, [.ref ma, .int (nI nt), .int (nI pp), .int (th), .ref mp, .int (rn), .int (ro), .int (to), .int (wt), .int (hn), .int (ho), .ref mt, .int (nI tl), .int (fa), .int (bk), .int (ba), .int (spt), .int (hre), .int (tok), .int (val), .ref mc, .ref ml, .ref mn, .int (nI se), .ref mk, .ref mg, .ref mh, .ref mq, .int (tn)])), (ma, .inl (E.2.1 1, 172, .inl (f))), (mk, .inl (E.2.1 3, 2, .inl (km))), (mg, .inl (E.2.1 1, 4, .inl (lg))), (mh, .inl (E.2.1 1, 4, .inl (lh_)))] 0 0 (Rt (some (.int (if x = 0 then nI se else if x = 1 then nI (kcN km 2) else if x = 2 then nI tl else if x = 3 then (if lg 0 = -4 then -4 else lh_ 0) else if x = 4 then btsK (f 41) 8 else if x = 5 then nI (cntM (hpM th f (f 41)) rl) else -1))) [(m0, .inr (5, [.ref ma, .int (nI nt), .int (nI pp), .int (th), .ref mp, .int (rn), .int (ro), .int (to), .int (wt), .int (hn), .int (ho), .ref mt, .int (nI tl), .int (fa), .int (bk), .int (ba), .int (spt), .int (hre), .int (tok), .int (val), .ref mc, .ref ml, .ref mn, .int (nI se), .ref mk, .ref mg, .ref mh, .ref mq, .int (tn)])), (ma, .inl (E.2.1 1, 172, .inl (f))), (mk, .inl (E.2.1 3, 2, .inl (km))), (mg, .inl (E.2.1 1, 4, .inl (lg))), (mh, .inl (E.2.1 1, 4, .inl (lh_)))]) 0 0 4 [(3, .int (nI i)), (2, .int (nI a)), (0, .ref m0), (1, .int (x))] [] [(m0, .inr (5, [.ref ma, .int (nI nt), .int (nI pp), .int (th), .ref mp, .int (rn), .int (ro), .int (to), .int (wt), .int (hn), .int (ho), .ref mt, .int (nI tl), .int (fa), .int (bk), .int (ba), .int (spt), .int (hre), .int (tok), .int (val), .ref mc, .ref ml, .ref mn, .int (nI se), .ref mk, .ref mg, .ref mh, .ref mq, .int (tn)])), (ma, .inl (E.2.1 1, 172, .inl (f))), (mk, .inl (E.2.1 3, 2, .inl (km))), (mg, .inl (E.2.1 1, 4, .inl (lg))), (mh, .inl (E.2.1 1, 4, .inl (lh_)))] := by
    intro D_4
    induction D_4 with
    | zero => intro i a h; exact absurd h (Nat.not_lt_zero _)
    | succ D_4 ih_4 =>
      intro i a hmu_4 h_4_0 h_4_1
      refine v_iload_n (pc := 4) 0 dX5_count_4 rfl rfl ?_
      refine v_aload_n (pc := 5) 2 dX5_count_5 rfl rfl ?_
      refine gf_787 (pc := 6) 0 dX5_count_6 rfl rfl ?_
      refine v_bipush (pc := 9) (v := 38) dX5_count_9 (by decide) ?_
      refine v_ialdN (pc := 11) 1 1 (38) dX5_count_11 rfl rfl rfl (by decide) (by decide) ?_
      refine v_st (st' := [.int (nI rl), .int (nI i)]) (by rw [h_38]) ?_
      refine v_cmpN_ge (pc := 12) (a := i) (b := rl) 44 dX5_count_12 (by decide) (by omega) (by omega) (fun c_12 => ?_) (fun c_12 => ?_)
      · skip
        refine v_iload_n (pc := 44) 3 dX5_count_44 rfl rfl ?_
        by_cases c_45_0 : x = 0
        · skip
          refine v_tableIn (pc := 45) (off := 39) 84 dX5_count_45 (by rw [c_45_0]; decide) (by rw [c_45_0]; decide) (by rw [c_45_0]; decide) (by decide) ?_
          refine v_aload_n (pc := 84) 2 dX5_count_84 rfl rfl ?_
          refine gf_810 (pc := 85) 0 dX5_count_85 rfl rfl ?_
          refine v_iret (pc := 88) dX5_count_88 rfl ⟨rfl, rfl⟩ (Rt.i ?_)
          first | simp only [if_pos c_12, if_pos c_45_0] | rfl
        by_cases c_45_1 : x = 1
        · skip
          refine v_tableIn (pc := 45) (off := 44) 89 dX5_count_45 (by rw [c_45_1]; decide) (by rw [c_45_1]; decide) (by rw [c_45_1]; decide) (by decide) ?_
          refine v_aload_n (pc := 89) 2 dX5_count_89 rfl rfl ?_
          refine gf_811 (pc := 90) 0 dX5_count_90 rfl rfl ?_
          refine v_iconst (pc := 93) (v := 0) dX5_count_93 (by decide) ?_
          refine v_zaldN (pc := 94) 2 3 (0) dX5_count_94 rfl rfl rfl (by decide) (by decide) ?_
          suffices J_95 : V l E RX5 cX5_count 4 (Option.some FieldType.int) "count" ({ frames := 1, cells := 0, slots := 0, locals := 24 }) [(m0, .inr (5, [.ref ma, .int (nI nt), .int (nI pp), .int (th), .ref mp, .int (rn), .int (ro), .int (to), .int (wt), .int (hn), .int (ho), .ref mt, .int (nI tl), .int (fa), .int (bk), .int (ba), .int (spt), .int (hre), .int (tok), .int (val), .ref mc, .ref ml, .ref mn, .int (nI se), .ref mk, .ref mg, .ref mh, .ref mq, .int (tn)])), (ma, .inl (E.2.1 1, 172, .inl (f))), (mk, .inl (E.2.1 3, 2, .inl (km))), (mg, .inl (E.2.1 1, 4, .inl (lg))), (mh, .inl (E.2.1 1, 4, .inl (lh_)))] 0 0 (Rt (some (.int (if x = 0 then nI se else if x = 1 then nI (kcN km 2) else if x = 2 then nI tl else if x = 3 then (if lg 0 = -4 then -4 else lh_ 0) else if x = 4 then btsK (f 41) 8 else if x = 5 then nI (cntM (hpM th f (f 41)) rl) else -1))) [(m0, .inr (5, [.ref ma, .int (nI nt), .int (nI pp), .int (th), .ref mp, .int (rn), .int (ro), .int (to), .int (wt), .int (hn), .int (ho), .ref mt, .int (nI tl), .int (fa), .int (bk), .int (ba), .int (spt), .int (hre), .int (tok), .int (val), .ref mc, .ref ml, .ref mn, .int (nI se), .ref mk, .ref mg, .ref mh, .ref mq, .int (tn)])), (ma, .inl (E.2.1 1, 172, .inl (f))), (mk, .inl (E.2.1 3, 2, .inl (km))), (mg, .inl (E.2.1 1, 4, .inl (lg))), (mh, .inl (E.2.1 1, 4, .inl (lh_)))]) 0 0 103 [(3, .int (nI i)), (2, .int (nI a)), (0, .ref m0), (1, .int (x))] [.int (if (km 0) = 0 then 0 else 1)] [(m0, .inr (5, [.ref ma, .int (nI nt), .int (nI pp), .int (th), .ref mp, .int (rn), .int (ro), .int (to), .int (wt), .int (hn), .int (ho), .ref mt, .int (nI tl), .int (fa), .int (bk), .int (ba), .int (spt), .int (hre), .int (tok), .int (val), .ref mc, .ref ml, .ref mn, .int (nI se), .ref mk, .ref mg, .ref mh, .ref mq, .int (tn)])), (ma, .inl (E.2.1 1, 172, .inl (f))), (mk, .inl (E.2.1 3, 2, .inl (km))), (mg, .inl (E.2.1 1, 4, .inl (lg))), (mh, .inl (E.2.1 1, 4, .inl (lh_)))] by
            refine v_if_eq (pc := 95) 102 dX5_count_95 (by decide) (fun c_95 => ?_) (fun c_95 => ?_)
            · skip
              refine v_iconst (pc := 102) (v := 0) dX5_count_102 (by decide) ?_
              refine v_st ?_ J_95
              rw [if_pos (show (km 0) = 0 from c_95)]
            · skip
              refine v_iconst (pc := 98) (v := 1) dX5_count_98 (by decide) ?_
              refine v_goto (pc := 99) 103 dX5_count_99 (by decide) ?_
              refine v_st ?_ J_95
              rw [if_neg (show ¬ ((km 0) = 0) from (by first | exact c_95 | omega | exact fun q => q c_95))]
          refine v_aload_n (pc := 103) 2 dX5_count_103 rfl rfl ?_
          refine gf_811 (pc := 104) 0 dX5_count_104 rfl rfl ?_
          refine v_iconst (pc := 107) (v := 1) dX5_count_107 (by decide) ?_
          refine v_zaldN (pc := 108) 2 3 (1) dX5_count_108 rfl rfl rfl (by decide) (by decide) ?_
          suffices J_109 : V l E RX5 cX5_count 4 (Option.some FieldType.int) "count" ({ frames := 1, cells := 0, slots := 0, locals := 24 }) [(m0, .inr (5, [.ref ma, .int (nI nt), .int (nI pp), .int (th), .ref mp, .int (rn), .int (ro), .int (to), .int (wt), .int (hn), .int (ho), .ref mt, .int (nI tl), .int (fa), .int (bk), .int (ba), .int (spt), .int (hre), .int (tok), .int (val), .ref mc, .ref ml, .ref mn, .int (nI se), .ref mk, .ref mg, .ref mh, .ref mq, .int (tn)])), (ma, .inl (E.2.1 1, 172, .inl (f))), (mk, .inl (E.2.1 3, 2, .inl (km))), (mg, .inl (E.2.1 1, 4, .inl (lg))), (mh, .inl (E.2.1 1, 4, .inl (lh_)))] 0 0 (Rt (some (.int (if x = 0 then nI se else if x = 1 then nI (kcN km 2) else if x = 2 then nI tl else if x = 3 then (if lg 0 = -4 then -4 else lh_ 0) else if x = 4 then btsK (f 41) 8 else if x = 5 then nI (cntM (hpM th f (f 41)) rl) else -1))) [(m0, .inr (5, [.ref ma, .int (nI nt), .int (nI pp), .int (th), .ref mp, .int (rn), .int (ro), .int (to), .int (wt), .int (hn), .int (ho), .ref mt, .int (nI tl), .int (fa), .int (bk), .int (ba), .int (spt), .int (hre), .int (tok), .int (val), .ref mc, .ref ml, .ref mn, .int (nI se), .ref mk, .ref mg, .ref mh, .ref mq, .int (tn)])), (ma, .inl (E.2.1 1, 172, .inl (f))), (mk, .inl (E.2.1 3, 2, .inl (km))), (mg, .inl (E.2.1 1, 4, .inl (lg))), (mh, .inl (E.2.1 1, 4, .inl (lh_)))]) 0 0 117 [(3, .int (nI i)), (2, .int (nI a)), (0, .ref m0), (1, .int (x))] [.int (if (km 1) = 0 then 0 else 1), .int (if (km 0) = 0 then 0 else 1)] [(m0, .inr (5, [.ref ma, .int (nI nt), .int (nI pp), .int (th), .ref mp, .int (rn), .int (ro), .int (to), .int (wt), .int (hn), .int (ho), .ref mt, .int (nI tl), .int (fa), .int (bk), .int (ba), .int (spt), .int (hre), .int (tok), .int (val), .ref mc, .ref ml, .ref mn, .int (nI se), .ref mk, .ref mg, .ref mh, .ref mq, .int (tn)])), (ma, .inl (E.2.1 1, 172, .inl (f))), (mk, .inl (E.2.1 3, 2, .inl (km))), (mg, .inl (E.2.1 1, 4, .inl (lg))), (mh, .inl (E.2.1 1, 4, .inl (lh_)))] by
            refine v_if_eq (pc := 109) 116 dX5_count_109 (by decide) (fun c_109 => ?_) (fun c_109 => ?_)
            · skip
              refine v_iconst (pc := 116) (v := 0) dX5_count_116 (by decide) ?_
              refine v_st ?_ J_109
              rw [if_pos (show (km 1) = 0 from c_109)]
            · skip
              refine v_iconst (pc := 112) (v := 1) dX5_count_112 (by decide) ?_
              refine v_goto (pc := 113) 117 dX5_count_113 (by decide) ?_
              refine v_st ?_ J_109
              rw [if_neg (show ¬ ((km 1) = 0) from (by first | exact c_109 | omega | exact fun q => q c_109))]
          refine v_iadd (pc := 117) dX5_count_117 ?_
          refine v_iret (pc := 118) dX5_count_118 rfl ⟨rfl, rfl⟩ (Rt.i ?_)
          rw [if_neg c_45_0, if_pos c_45_1]; by_cases q0 : km 0 = 0 <;> by_cases q1 : km 1 = 0 <;> simp [kcN, q0, q1] <;> rfl
        by_cases c_45_2 : x = 2
        · skip
          refine v_tableIn (pc := 45) (off := 74) 119 dX5_count_45 (by rw [c_45_2]; decide) (by rw [c_45_2]; decide) (by rw [c_45_2]; decide) (by decide) ?_
          refine v_aload_n (pc := 119) 2 dX5_count_119 rfl rfl ?_
          refine gf_799 (pc := 120) 0 dX5_count_120 rfl rfl ?_
          refine v_iret (pc := 123) dX5_count_123 rfl ⟨rfl, rfl⟩ (Rt.i ?_)
          first | simp only [if_pos c_12, if_neg c_45_0, if_neg c_45_1, if_pos c_45_2] | rfl
        by_cases c_45_3 : x = 3
        · skip
          refine v_tableIn (pc := 45) (off := 79) 124 dX5_count_45 (by rw [c_45_3]; decide) (by rw [c_45_3]; decide) (by rw [c_45_3]; decide) (by decide) ?_
          refine v_aload_n (pc := 124) 2 dX5_count_124 rfl rfl ?_
          refine gf_812 (pc := 125) 0 dX5_count_125 rfl rfl ?_
          refine v_iconst (pc := 128) (v := 0) dX5_count_128 (by decide) ?_
          refine v_ialdN (pc := 129) 3 1 (0) dX5_count_129 rfl rfl rfl (by decide) (by decide) ?_
          refine v_bipush (pc := 130) (v := -4) dX5_count_130 (by decide) ?_
          refine v_icmp_ne (pc := 132) 140 dX5_count_132 (by decide) (fun c_132 => ?_) (fun c_132 => ?_)
          · skip
            refine v_aload_n (pc := 140) 2 dX5_count_140 rfl rfl ?_
            refine gf_813 (pc := 141) 0 dX5_count_141 rfl rfl ?_
            refine v_iconst (pc := 144) (v := 0) dX5_count_144 (by decide) ?_
            refine v_ialdN (pc := 145) 4 1 (0) dX5_count_145 rfl rfl rfl (by decide) (by decide) ?_
            refine v_iret (pc := 146) dX5_count_146 rfl ⟨rfl, rfl⟩ (Rt.i ?_)
            rw [if_neg c_45_0, if_neg c_45_1, if_neg c_45_2, if_pos c_45_3, if_neg c_132]
          · skip
            refine v_bipush (pc := 135) (v := -4) dX5_count_135 (by decide) ?_
            refine v_goto (pc := 137) 146 dX5_count_137 (by decide) ?_
            refine v_iret (pc := 146) dX5_count_146 rfl ⟨rfl, rfl⟩ (Rt.i ?_)
            rw [if_neg c_45_0, if_neg c_45_1, if_neg c_45_2, if_pos c_45_3, if_pos c_132]
        by_cases c_45_4 : x = 4
        · skip
          refine v_tableIn (pc := 45) (off := 102) 147 dX5_count_45 (by rw [c_45_4]; decide) (by rw [c_45_4]; decide) (by rw [c_45_4]; decide) (by decide) ?_
          refine v_aload_n (pc := 147) 2 dX5_count_147 rfl rfl ?_
          refine gf_787 (pc := 148) 0 dX5_count_148 rfl rfl ?_
          refine v_bipush (pc := 151) (v := 41) dX5_count_151 (by decide) ?_
          refine v_ialdN (pc := 153) 1 1 (41) dX5_count_153 rfl rfl rfl (by decide) (by decide) ?_
          refine v_callS (pc := 154) (rest := []) [] lk_1105 (c_X5_bitsOf l E (f 41)) dX5_count_154 rfl rfl (Nat.le_of_ble_eq_true rfl) (by decide) (by decide) rfl (Rt.len rfl) (Rt.go ?_)
          refine v_w (ws' := [(m0, .inr (5, [.ref ma, .int (nI nt), .int (nI pp), .int (th), .ref mp, .int (rn), .int (ro), .int (to), .int (wt), .int (hn), .int (ho), .ref mt, .int (nI tl), .int (fa), .int (bk), .int (ba), .int (spt), .int (hre), .int (tok), .int (val), .ref mc, .ref ml, .ref mn, .int (nI se), .ref mk, .ref mg, .ref mh, .ref mq, .int (tn)])), (ma, .inl (E.2.1 1, 172, .inl (f))), (mk, .inl (E.2.1 3, 2, .inl (km))), (mg, .inl (E.2.1 1, 4, .inl (lg))), (mh, .inl (E.2.1 1, 4, .inl (lh_)))]) rfl ?_
          refine v_st (st' := [.int (btsK (f 41) 8)]) rfl ?_
          refine v_iret (pc := 157) dX5_count_157 rfl ⟨rfl, rfl⟩ (Rt.i ?_)
          first | simp only [if_pos c_12, if_neg c_45_0, if_neg c_45_1, if_neg c_45_2, if_neg c_45_3, if_pos c_45_4] | rfl
        by_cases c_45_5 : x = 5
        · skip
          refine v_tableIn (pc := 45) (off := 113) 158 dX5_count_45 (by rw [c_45_5]; decide) (by rw [c_45_5]; decide) (by rw [c_45_5]; decide) (by decide) ?_
          refine v_iload_n (pc := 158) 1 dX5_count_158 rfl rfl ?_
          refine v_iret (pc := 159) dX5_count_159 rfl ⟨rfl, rfl⟩ (Rt.i ?_)
          obtain rfl : i = rl := by omega
          rw [if_neg c_45_0, if_neg c_45_1, if_neg c_45_2, if_neg c_45_3, if_neg c_45_4, if_pos c_45_5, h_4_1]
        refine v_tableOut (pc := 45) 160 dX5_count_45 (sw_out6 c_45_0 c_45_1 c_45_2 c_45_3 c_45_4 c_45_5) (by decide) ?_
        refine v_iconst (pc := 160) (v := -1) dX5_count_160 (by decide) ?_
        refine v_iret (pc := 161) dX5_count_161 rfl ⟨rfl, rfl⟩ (Rt.i ?_)
        first | simp only [if_pos c_12, if_neg c_45_0, if_neg c_45_1, if_neg c_45_2, if_neg c_45_3, if_neg c_45_4, if_neg c_45_5] | rfl
      · skip
        refine v_iload_n (pc := 15) 1 dX5_count_15 rfl rfl ?_
        refine v_aload_n (pc := 16) 2 dX5_count_16 rfl rfl ?_
        refine v_iload_n (pc := 17) 0 dX5_count_17 rfl rfl ?_
        refine v_aload_n (pc := 18) 2 dX5_count_18 rfl rfl ?_
        refine gf_787 (pc := 19) 0 dX5_count_19 rfl rfl ?_
        refine v_bipush (pc := 22) (v := 41) dX5_count_22 (by decide) ?_
        refine v_ialdN (pc := 24) 1 1 (41) dX5_count_24 rfl rfl rfl (by decide) (by decide) ?_
        refine v_callV (pc := 25) (rest := [.int (nI a)]) [0, 1] 0 lk_958 (c_X5_holds l E m0 ma mp mt mc ml mn mk mg mh mq nt pp tl se th rn ro to wt hn ho fa bk ba spt hre tok val tn f i (f 41) (by omega)) dX5_count_25 rfl rfl (Nat.le_of_ble_eq_true rfl) (by decide) rfl rfl rfl (by decide) rfl (Rt.len rfl) (Rt.go ?_)
        refine v_w (ws' := [(m0, .inr (5, [.ref ma, .int (nI nt), .int (nI pp), .int (th), .ref mp, .int (rn), .int (ro), .int (to), .int (wt), .int (hn), .int (ho), .ref mt, .int (nI tl), .int (fa), .int (bk), .int (ba), .int (spt), .int (hre), .int (tok), .int (val), .ref mc, .ref ml, .ref mn, .int (nI se), .ref mk, .ref mg, .ref mh, .ref mq, .int (tn)])), (ma, .inl (E.2.1 1, 172, .inl (f))), (mk, .inl (E.2.1 3, 2, .inl (km))), (mg, .inl (E.2.1 1, 4, .inl (lg))), (mh, .inl (E.2.1 1, 4, .inl (lh_)))]) rfl ?_
        refine v_st (st' := [.int (if hldM th f i (f 41) then 1 else 0), .int (nI a)]) rfl ?_
        refine v_ifB_eq (pc := 28) 35 dX5_count_28 (by decide) (fun c_28 => ?_) (fun c_28 => ?_)
        · skip
          refine v_iconst (pc := 35) (v := 0) dX5_count_35 (by decide) ?_
          refine v_iadd (pc := 36) dX5_count_36 ?_
          refine v_st (st' := [.int (nI (a + 0))]) (congrArg (fun z => Value.int z :: _) (nI_add a 0)) ?_
          refine v_istore_n (pc := 37) (lv' := [(2, .int (nI (a + 0))), (3, .int (nI i)), (0, .ref m0), (1, .int (x))]) dX5_count_37 rfl (by decide) rfl ?_
          refine v_iinc (pc := 38) (v := nI (i + 1)) (lv' := [(3, .int (nI (i + 1))), (2, .int (nI (a + 0))), (0, .ref m0), (1, .int (x))]) 1 dX5_count_38 rfl (nI_inc (i) 1) (by decide) rfl ?_
          refine v_goto (pc := 41) 4 dX5_count_41 (by decide) ?_
          refine v_lv (lv' := [(3, .int (nI (i + 1))), (2, .int (nI (a + 0))), (0, .ref m0), (1, .int (x))]) [0, 1, 2, 3] rfl ?_
          refine ih_4 (i + 1) (a + 0) (by omega) ?_ ?_
          · omega
          · simp only [cntM, hpM, decide_eq_true_eq]; rw [if_neg c_28, h_4_1] <;> rfl
        · skip
          refine v_iconst (pc := 31) (v := 1) dX5_count_31 (by decide) ?_
          refine v_goto (pc := 32) 36 dX5_count_32 (by decide) ?_
          refine v_iadd (pc := 36) dX5_count_36 ?_
          refine v_st (st' := [.int (nI (a + 1))]) (congrArg (fun z => Value.int z :: _) (nI_add a 1)) ?_
          refine v_istore_n (pc := 37) (lv' := [(2, .int (nI (a + 1))), (3, .int (nI i)), (0, .ref m0), (1, .int (x))]) dX5_count_37 rfl (by decide) rfl ?_
          refine v_iinc (pc := 38) (v := nI (i + 1)) (lv' := [(3, .int (nI (i + 1))), (2, .int (nI (a + 1))), (0, .ref m0), (1, .int (x))]) 1 dX5_count_38 rfl (nI_inc (i) 1) (by decide) rfl ?_
          refine v_goto (pc := 41) 4 dX5_count_41 (by decide) ?_
          refine v_lv (lv' := [(3, .int (nI (i + 1))), (2, .int (nI (a + 1))), (0, .ref m0), (1, .int (x))]) [0, 1, 2, 3] rfl ?_
          refine ih_4 (i + 1) (a + 1) (by omega) ?_ ?_
          · omega
          · simp only [cntM, hpM, decide_eq_true_eq]; rw [if_pos c_28, h_4_1] <;> rfl
  refine v_lv (lv' := [(3, .int (nI 0)), (2, .int (nI 0)), (0, .ref m0), (1, .int (x))]) [0, 1, 2, 3] rfl ?_
  refine loop_4 ((rl - 0) + 1) 0 0 (Nat.lt_succ_self _) ?_ ?_
  · omega
  · rfl
