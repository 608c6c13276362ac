def dyK (p : Nat → Bool) (S : Int32) : Nat → Nat × Int32 × Int32 × Int32 × Int32
  | 0 => (0, -4, -4, S, S)
  | n + 1 => if p n = true then ((dyK p S n).1 + 1, (if (dyK p S n).1 = 0 then nI n else (dyK p S n).2.1), nI n, (dyK p S n).2.2.2.1 &&& nI n, (dyK p S n).2.2.2.2 &&& (nI n ^^^ -1)) else dyK p S n
theorem dyK_le (p : Nat → Bool) (S : Int32) : ∀ n, (dyK p S n).1 ≤ n
  | 0 => Nat.le_refl 0
  | n + 1 => by
    have h := dyK_le p S n
    simp only [dyK]
    split
    · show (dyK p S n).1 + 1 ≤ n + 1
      omega
    · omega
def caM (o : Int32 → Int32) (x : Int32) (n : Nat) : Int32 := lstF (fun t => decide (itr o t x = x)) n 1
def anyB (q : Nat → Bool) : Nat → Bool
  | 0 => false
  | n + 1 => anyB q n || q n
theorem anyB_mono {q : Nat → Bool} {n : Nat} : ∀ m, n ≤ m → anyB q n = true → anyB q m = true := by
  intro m
  induction m with
  | zero =>
    intro h
    have e : n = 0 := Nat.le_zero.mp h
    rw [e]
    exact id
  | succ m ih =>
    intro h h2
    by_cases e : n = m + 1
    · subst e; exact h2
    · simp only [anyB]; rw [ih (by omega) h2]; rfl
def cbQ (rl : Nat) (th : Int32) (f : Nat → Int32) (n : Int32) (P : Prop) [Decidable P] : Nat → Bool := fun s => decide ((bt1 (nI s) n = 1 ↔ P) ∧ outM rl th f (nI s) = nI s)
theorem one_ite {P : Prop} [Decidable P] : ((1 : Int32) = if P then 1 else 0) ↔ P := by by_cases h : P <;> simp [h]
theorem zero_ite {P : Prop} [Decidable P] : ((0 : Int32) = if P then 1 else 0) ↔ ¬ P := by by_cases h : P <;> simp [h]
def couM (p : Nat → Bool) (g : Nat → Int32) : Nat → Int32
  | 0 => 0
  | n + 1 => couM p g n ||| if p n = true then g n else 0
theorem bt1_0 (k : Nat) (hk : k < 8) : bt1 (nI 0) (nI k) = 0 := by
  revert k; decide
theorem cnt_th0 {rl : Nat} {f : Nat → Int32} (hr : rl ≤ 8) (n : Nat) : 0 < cntM (agM rl (nI (2 ^ 0 - 1)) f) (2 ^ n) := by
  have h0 : ∀ k, k ≤ 8 → ∀ s, orF (hpM (nI (2 ^ 0 - 1)) f s) (rW f) k = 0 := by
    intro k
    induction k with
    | zero => intro _ s; rfl
    | succ k ih =>
      intro hk s
      simp only [orF, hpM, decide_eq_true_eq]
      rw [if_neg (fun q => absurd q.1 (by rw [show (2 ^ 0 - 1 : Nat) = 0 from rfl, bt1_0 k (by omega)]; decide)), ← ih (by omega) s]
  have h1 : agM rl (nI (2 ^ 0 - 1)) f 0 = true := by
    unfold agM outM
    rw [decide_eq_true_eq, h0 rl hr]
    simp [nI_0]
  have h2 : ∀ m, 0 < m → 0 < cntM (agM rl (nI (2 ^ 0 - 1)) f) m := by
    intro m
    induction m with
    | zero => intro h; omega
    | succ m ih =>
      intro _
      simp only [cntM]
      by_cases e : m = 0
      · subst e; rw [if_pos h1]; omega
      · have := ih (by omega); omega
  exact h2 _ (p1 n)
theorem c_X5_daysOn (l : Launch) (E : VE) (m0 : Nat) (ma : Nat) (mp : Nat) (mt : Nat) (mc : Nat) (ml : Nat) (mn : Nat) (mk : Nat) (mg : Nat) (mh : Nat) (mq : Nat) (nt : Nat) (pp : Nat) (rl : Nat) (tl : Nat) (se : Nat) (th : Int32) (rn : Int32) (ro : Int32) (to : Int32) (wt : Int32) (hn : Int32) (ho : Int32) (fa : Int32) (bk : Int32) (ba : Int32) (spt : Int32) (hre : Int32) (tok : Int32) (val : Int32) (tn : Int32) (f : Nat → Int32) (m : Nat) (x : Int32) (h_rl : rl ≤ 8) (h_38 : f 38 = nI rl) (h_m : m < 2 ^ 31) : Ct l E yX5_daysOn cX5_daysOn 5 (Option.some FieldType.int) 2 47 0 0 [.ref m0, .int (x), .int (nI m)] [(m0, .inr (5, [.ref ma, .int (nI nt), .int (nI pp), .int (th), .ref mp, .int (rn), .int (ro), .int (to), .int (wt), .int (hn), .int (ho), .ref mt, .int (nI tl), .int (fa), .int (bk), .int (ba), .int (spt), .int (hre), .int (tok), .int (val), .ref mc, .ref ml, .ref mn, .int (nI se), .ref mk, .ref mg, .ref mh, .ref mq, .int (tn)])), (ma, .inl (E.2.1 1, 172, .inl (f)))] (Rt (some (.int (itr (outM rl th f) m x))) [(m0, .inr (5, [.ref ma, .int (nI nt), .int (nI pp), .int (th), .ref mp, .int (rn), .int (ro), .int (to), .int (wt), .int (hn), .int (ho), .ref mt, .int (nI tl), .int (fa), .int (bk), .int (ba), .int (spt), .int (hre), .int (tok), .int (val), .ref mc, .ref ml, .ref mn, .int (nI se), .ref mk, .ref mg, .ref mh, .ref mq, .int (tn)])), (ma, .inl (E.2.1 1, 172, .inl (f)))]) := by
  refine Ct.of (own := RX5) (nm := "daysOn") (lv := [(0, .ref m0), (1, .int (x)), (2, .int (nI m))]) (by decide) rfl rfl (Nat.le_of_ble_eq_true rfl) rfl ?_
  refine v_iload_n (pc := 0) 1 dX5_daysOn_0 rfl rfl ?_
  refine v_istore_n (pc := 1) (lv' := [(3, .int (x)), (0, .ref m0), (1, .int (x)), (2, .int (nI m))]) dX5_daysOn_1 rfl (by decide) rfl ?_
  refine v_iconst (pc := 2) (v := 0) dX5_daysOn_2 (by decide) ?_
  refine v_istore (pc := 3) (lv' := [(4, .int (0)), (3, .int (x)), (0, .ref m0), (1, .int (x)), (2, .int (nI m))]) dX5_daysOn_3 (by decide) rfl ?_
  have loop_5 : ∀ (D_5 : Nat) (t : Nat) (v : Int32), m - t < D_5 → (t ≤ m) → (v = itr (outM rl th f) t x) → V l E RX5 cX5_daysOn 5 (Option.some FieldType.int) "daysOn" ({ frames := 2, cells := 0, slots := 0, locals := 47 }) [(m0, .inr (5, [.ref ma, .int (nI nt), .int (nI pp), .int (th), .ref mp, .int (rn), .int (ro), .int (to), .int (wt), .int (hn), .int (ho), .ref mt, .int (nI tl), .int (fa), .int (bk), .int (ba), .int (spt), .int (hre), .int (tok), .int (val), .ref mc, .ref ml, .ref mn, .int (nI se), .ref mk, .ref mg, .ref mh, .ref mq, .int (tn)])), (ma, .inl (E.2.1 1, 172, .inl (f)))] 0 0 (Rt (some (.int (itr (outM rl th f) m x))) [(m0, .inr (5, [.ref ma, .int (nI nt), .int (nI pp), .int (th), .ref mp, .int (rn), .int (ro), .int (to), .int (wt), .int (hn), .int (ho), .ref mt, .int (nI tl), .int (fa), .int (bk), .int (ba), .int (spt), .int (hre), .int (tok), .int (val), .ref mc, .ref ml, .ref mn, .int (nI se), .ref mk, .ref mg, .ref mh, .ref mq, .int (tn)])), (ma, .inl (E.2.1 1, 172, .inl (f)))]) 0 0 5 [(4, .int (nI t)), (3, .int (v)), (0, .ref m0), (1, .int (x)), (2, .int (nI m))] [] [(m0, .inr (5, [.ref ma, .int (nI nt), .int (nI pp), .int (th), .ref mp, .int (rn), .int (ro), .int (to), .int (wt), .int (hn), .int (ho), .ref mt, .int (nI tl), .int (fa), .int (bk), .int (ba), .int (spt), .int (hre), .int (tok), .int (val), .ref mc, .ref ml, .ref mn, .int (nI se), .ref mk, .ref mg, .ref mh, .ref mq, .int (tn)])), (ma, .inl (E.2.1 1, 172, .inl (f)))] := by
    intro D_5
    induction D_5 with
    | zero => intro t v h; exact absurd h (Nat.not_lt_zero _)
    | succ D_5 ih_5 =>
      intro t v hmu_5 h_5_0 h_5_1
      refine v_iload (pc := 5) 0 dX5_daysOn_5 rfl ?_
      refine v_iload_n (pc := 7) 4 dX5_daysOn_7 rfl rfl ?_
      refine v_cmpN_ge (pc := 8) (a := t) (b := m) 23 dX5_daysOn_8 (by decide) (by omega) (by omega) (fun c_8 => ?_) (fun c_8 => ?_)
      · skip
        refine v_iload_n (pc := 23) 1 dX5_daysOn_23 rfl rfl ?_
        refine v_iret (pc := 24) dX5_daysOn_24 rfl ⟨rfl, rfl⟩ (Rt.i ?_)
        obtain rfl : t = m := by omega
        exact h_5_1
      · skip
        refine v_aload_n (pc := 11) 2 dX5_daysOn_11 rfl rfl ?_
        refine v_iload_n (pc := 12) 1 dX5_daysOn_12 rfl rfl ?_
        refine v_callV (pc := 13) (rest := []) [0, 1] 0 lk_1028 (c_X5_broughtBy l E m0 ma mp mt mc ml mn mk mg mh mq nt pp rl tl se th rn ro to wt hn ho fa bk ba spt hre tok val tn f v (by first | assumption | omega) (by first | assumption | omega)) dX5_daysOn_13 rfl rfl (Nat.le_of_ble_eq_true rfl) (by decide) rfl rfl rfl (by decide) rfl (Rt.len rfl) (Rt.go ?_)
        refine v_w (ws' := [(m0, .inr (5, [.ref ma, .int (nI nt), .int (nI pp), .int (th), .ref mp, .int (rn), .int (ro), .int (to), .int (wt), .int (hn), .int (ho), .ref mt, .int (nI tl), .int (fa), .int (bk), .int (ba), .int (spt), .int (hre), .int (tok), .int (val), .ref mc, .ref ml, .ref mn, .int (nI se), .ref mk, .ref mg, .ref mh, .ref mq, .int (tn)])), (ma, .inl (E.2.1 1, 172, .inl (f)))]) rfl ?_
        refine v_st (st' := [.int (outM rl th f v)]) rfl ?_
        refine v_istore_n (pc := 16) (lv' := [(3, .int (outM rl th f v)), (4, .int (nI t)), (0, .ref m0), (1, .int (x)), (2, .int (nI m))]) dX5_daysOn_16 rfl (by decide) rfl ?_
        refine v_iinc (pc := 17) (v := nI (t + 1)) (lv' := [(4, .int (nI (t + 1))), (3, .int (outM rl th f v)), (0, .ref m0), (1, .int (x)), (2, .int (nI m))]) 1 dX5_daysOn_17 rfl (nI_inc (t) 1) (by decide) rfl ?_
        refine v_goto (pc := 20) 5 dX5_daysOn_20 (by decide) ?_
        refine v_lv (lv' := [(4, .int (nI (t + 1))), (3, .int (outM rl th f v)), (0, .ref m0), (1, .int (x)), (2, .int (nI m))]) [0, 1, 2, 3, 4] rfl ?_
        refine ih_5 (t + 1) (outM rl th f v) (by omega) ?_ ?_
        · omega
        · rw [h_5_1]; rfl
  refine v_lv (lv' := [(4, .int (nI 0)), (3, .int (x)), (0, .ref m0), (1, .int (x)), (2, .int (nI m))]) [0, 1, 2, 3, 4] rfl ?_
  refine loop_5 ((m - 0) + 1) 0 x (Nat.lt_succ_self _) ?_ ?_
  · omega
  · rfl
theorem c_X5_day (l : Launch) (E : VE) (m0 : Nat) (ma : Nat) (mp : Nat) (mt : Nat) (mc : Nat) (ml : Nat) (mn : Nat) (mk : Nat) (mg : Nat) (mh : Nat) (mq : Nat) (nt : Nat) (pp : Nat) (rl : Nat) (tl : Nat) (se : Nat) (th : Int32) (rn : Int32) (ro : Int32) (to : Int32) (wt : Int32) (hn : Int32) (ho : Int32) (fa : Int32) (bk : Int32) (ba : Int32) (spt : Int32) (hre : Int32) (tok : Int32) (val : Int32) (tn : Int32) (f : Nat → Int32) (n : Int32) (h_rl : rl ≤ 8) (h_38 : f 38 = nI rl) : Ct l E yX5_day cX5_day 2 (Option.some FieldType.int) 3 71 0 0 [.ref m0, .int (n)] [(m0, .inr (5, [.ref ma, .int (nI nt), .int (nI pp), .int (th), .ref mp, .int (rn), .int (ro), .int (to), .int (wt), .int (hn), .int (ho), .ref mt, .int (nI tl), .int (fa), .int (bk), .int (ba), .int (spt), .int (hre), .int (tok), .int (val), .ref mc, .ref ml, .ref mn, .int (nI se), .ref mk, .ref mg, .ref mh, .ref mq, .int (tn)])), (ma, .inl (E.2.1 1, 172, .inl (f)))] (Rt (some (.int (if ¬ n < 0 ∧ ¬ 60 < n then (if f 42 + n ≤ 999 then itr (outM rl th f) n.toNatClampNeg (f 41) else -3) else -1))) [(m0, .inr (5, [.ref ma, .int (nI nt), .int (nI pp), .int (th), .ref mp, .int (rn), .int (ro), .int (to), .int (wt), .int (hn), .int (ho), .ref mt, .int (nI tl), .int (fa), .int (bk), .int (ba), .int (spt), .int (hre), .int (tok), .int (val), .ref mc, .ref ml, .ref mn, .int (nI se), .ref mk, .ref mg, .ref mh, .ref mq, .int (tn)])), (ma, .inl (E.2.1 1, 172, .inl (if ¬ n < 0 ∧ ¬ 60 < n then (if f 42 + n ≤ 999 then upd (upd f 41 (itr (outM rl th f) n.toNatClampNeg (f 41))) 42 (f 42 + n) else f) else f)))]) := by
  refine Ct.of (own := RX5) (nm := "day") (lv := [(0, .ref m0), (1, .int (n))]) (by decide) rfl rfl (Nat.le_of_ble_eq_true rfl) rfl ?_
  refine v_iload_n (pc := 0) 1 dX5_day_0 rfl rfl ?_
  refine v_i2l (pc := 1) dX5_day_1 ?_
  refine v_lconst (pc := 2) (v := 0) dX5_day_2 (by decide) ?_
  refine v_ldc2 (pc := 3) dX5_day_3 tb_1040 ?_
  refine v_callS (pc := 6) (rest := []) [] lk_880 (c_X5_in l E (Int32.toInt64 (n)) 0 60) dX5_day_6 rfl rfl (Nat.le_of_ble_eq_true rfl) (by decide) (by decide) rfl (Rt.len rfl) (Rt.go ?_)
  refine v_w (ws' := [(m0, .inr (5, [.ref ma, .int (nI nt), .int (nI pp), .int (th), .ref mp, .int (rn), .int (ro), .int (to), .int (wt), .int (hn), .int (ho), .ref mt, .int (nI tl), .int (fa), .int (bk), .int (ba), .int (spt), .int (hre), .int (tok), .int (val), .ref mc, .ref ml, .ref mn, .int (nI se), .ref mk, .ref mg, .ref mh, .ref mq, .int (tn)])), (ma, .inl (E.2.1 1, 172, .inl (f)))]) rfl ?_
  refine v_st (st' := [.int (if ¬ (Int32.toInt64 (n)) < 0 ∧ ¬ 60 < (Int32.toInt64 (n)) then 1 else 0)]) rfl ?_
  refine v_st (st' := [.int (if ¬ n < 0 ∧ ¬ 60 < n then 1 else 0)]) (ite_st (inK (a := 0) (b := 60)) _) ?_
  refine v_ifB_ne (pc := 9) 14 dX5_day_9 (by decide) (fun c_9 => ?_) (fun c_9 => ?_)
  · skip
    refine v_aload_n (pc := 14) 0 dX5_day_14 rfl rfl ?_
    refine gf_787 (pc := 15) 0 dX5_day_15 rfl rfl ?_
    refine v_bipush (pc := 18) (v := 42) dX5_day_18 (by decide) ?_
    refine v_ialdN (pc := 20) 1 1 (42) dX5_day_20 rfl rfl rfl (by decide) (by decide) ?_
    refine v_iload_n (pc := 21) 1 dX5_day_21 rfl rfl ?_
    refine v_iadd (pc := 22) dX5_day_22 ?_
    refine v_sipush (pc := 23) (v := 999) dX5_day_23 (by decide) ?_
    refine v_icmp_le (pc := 26) 32 dX5_day_26 (by decide) (fun c_26 => ?_) (fun c_26 => ?_)
    · skip
      obtain ⟨m, hm60, rfl⟩ := le_ex (b := 60) c_9.1 c_9.2 (by decide)
      have hmc : (nI m).toNatClampNeg = m := nI_clamp (by omega)
      refine v_aload_n (pc := 32) 0 dX5_day_32 rfl rfl ?_
      refine gf_787 (pc := 33) 0 dX5_day_33 rfl rfl ?_
      refine v_bipush (pc := 36) (v := 41) dX5_day_36 (by decide) ?_
      refine v_aload_n (pc := 38) 0 dX5_day_38 rfl rfl ?_
      refine v_aload_n (pc := 39) 0 dX5_day_39 rfl rfl ?_
      refine gf_787 (pc := 40) 0 dX5_day_40 rfl rfl ?_
      refine v_bipush (pc := 43) (v := 41) dX5_day_43 (by decide) ?_
      refine v_ialdN (pc := 45) 1 1 (41) dX5_day_45 rfl rfl rfl (by decide) (by decide) ?_
      refine v_iload_n (pc := 46) 1 dX5_day_46 rfl rfl ?_
      refine v_callV (pc := 47) (rest := [.int (41), .ref ma]) [0, 1] 0 lk_1041 (c_X5_daysOn l E m0 ma mp mt mc ml mn mk mg mh mq nt pp rl tl se th rn ro to wt hn ho fa bk ba spt hre tok val tn f m (f 41) (by first | assumption | omega) (by first | assumption | omega) (by first | assumption | omega)) dX5_day_47 rfl rfl (Nat.le_of_ble_eq_true rfl) (by decide) rfl rfl rfl (by decide) rfl (Rt.len rfl) (Rt.go ?_)
      refine v_w (ws' := [(m0, .inr (5, [.ref ma, .int (nI nt), .int (nI pp), .int (th), .ref mp, .int (rn), .int (ro), .int (to), .int (wt), .int (hn), .int (ho), .ref mt, .int (nI tl), .int (fa), .int (bk), .int (ba), .int (spt), .int (hre), .int (tok), .int (val), .ref mc, .ref ml, .ref mn, .int (nI se), .ref mk, .ref mg, .ref mh, .ref mq, .int (tn)])), (ma, .inl (E.2.1 1, 172, .inl (f)))]) rfl ?_
      refine v_st (st' := [.int (itr (outM rl th f) m (f 41)), .int (41), .ref ma]) rfl ?_
      refine v_iastN (pc := 50) (ws' := [(m0, .inr (5, [.ref ma, .int (nI nt), .int (nI pp), .int (th), .ref mp, .int (rn), .int (ro), .int (to), .int (wt), .int (hn), .int (ho), .ref mt, .int (nI tl), .int (fa), .int (bk), .int (ba), .int (spt), .int (hre), .int (tok), .int (val), .ref mc, .ref ml, .ref mn, .int (nI se), .ref mk, .ref mg, .ref mh, .ref mq, .int (tn)])), (ma, .inl (E.2.1 1, 172, .inl (upd (f) (41) (itr (outM rl th f) m (f 41)))))]) 1 1 (41) dX5_day_50 rfl rfl rfl (by decide) (by decide) rfl ?_
      refine v_aload_n (pc := 51) 0 dX5_day_51 rfl rfl ?_
      refine gf_787 (pc := 52) 0 dX5_day_52 rfl rfl ?_
      refine v_bipush (pc := 55) (v := 42) dX5_day_55 (by decide) ?_
      refine v_dup2 (pc := 57) dX5_day_57 rfl rfl ?_
      refine v_ialdN (pc := 58) 1 1 (42) dX5_day_58 rfl rfl rfl (by decide) (by decide) ?_
      refine v_st (st' := [.int (f 42), .int (42), .ref ma]) rfl ?_
      refine v_iload_n (pc := 59) 1 dX5_day_59 rfl rfl ?_
      refine v_iadd (pc := 60) dX5_day_60 ?_
      refine v_iastN (pc := 61) (ws' := [(m0, .inr (5, [.ref ma, .int (nI nt), .int (nI pp), .int (th), .ref mp, .int (rn), .int (ro), .int (to), .int (wt), .int (hn), .int (ho), .ref mt, .int (nI tl), .int (fa), .int (bk), .int (ba), .int (spt), .int (hre), .int (tok), .int (val), .ref mc, .ref ml, .ref mn, .int (nI se), .ref mk, .ref mg, .ref mh, .ref mq, .int (tn)])), (ma, .inl (E.2.1 1, 172, .inl (upd (upd (f) (41) (itr (outM rl th f) m (f 41))) (42) ((f 42) + ((nI m))))))]) 1 1 (42) dX5_day_61 rfl rfl rfl (by decide) (by decide) rfl ?_
      refine v_aload_n (pc := 62) 0 dX5_day_62 rfl rfl ?_
      refine gf_787 (pc := 63) 0 dX5_day_63 rfl rfl ?_
      refine v_bipush (pc := 66) (v := 41) dX5_day_66 (by decide) ?_
      refine v_ialdN (pc := 68) 1 1 (41) dX5_day_68 rfl rfl rfl (by decide) (by decide) ?_
      refine v_iret (pc := 69) dX5_day_69 rfl ⟨rfl, rfl⟩ (Rt.i2 ?_ ?_)
      · skip
        rw [if_pos c_9, if_pos c_26, hmc]; rfl
      · skip
        rw [if_pos c_9, if_pos c_26, hmc]
    · skip
      refine v_bipush (pc := 29) (v := -3) dX5_day_29 (by decide) ?_
      refine v_iret (pc := 31) dX5_day_31 rfl ⟨rfl, rfl⟩ (Rt.i2 ?_ ?_)
      · skip
        first | simp only [if_pos c_9, if_neg c_26] | rfl
      · skip
        first | simp only [if_pos c_9, if_neg c_26] | rfl
  · skip
    refine v_iconst (pc := 12) (v := -1) dX5_day_12 (by decide) ?_
    refine v_iret (pc := 13) dX5_day_13 rfl ⟨rfl, rfl⟩ (Rt.i2 ?_ ?_)
    · skip
      first | simp only [if_neg c_9] | rfl
    · skip
      first | simp only [if_neg c_9] | rfl
theorem c_X5_comesAgain (l : Launch) (E : VE) (m0 : Nat) (ma : Nat) (mp : Nat) (mt : Nat) (mc : Nat) (ml : Nat) (mn : Nat) (mk : Nat) (mg : Nat) (mh : Nat) (mq : Nat) (nt : Nat) (pp : Nat) (rl : Nat) (tl : Nat) (se : Nat) (th : Int32) (rn : Int32) (ro : Int32) (to : Int32) (wt : Int32) (hn : Int32) (ho : Int32) (fa : Int32) (bk : Int32) (ba : Int32) (spt : Int32) (hre : Int32) (tok : Int32) (val : Int32) (tn : Int32) (f : Nat → Int32) (x : Int32) (h_rl : rl ≤ 8) (h_38 : f 38 = nI rl) (h_nt : nt ≤ 6) : Ct l E yX5_comesAgain cX5_comesAgain 4 (Option.some FieldType.int) 2 47 0 0 [.ref m0, .int (x)] [(m0, .inr (5, [.ref ma, .int (nI nt), .int (nI pp), .int (th), .ref mp, .int (rn), .int (ro), .int (to), .int (wt), .int (hn), .int (ho), .ref mt, .int (nI tl), .int (fa), .int (bk), .int (ba), .int (spt), .int (hre), .int (tok), .int (val), .ref mc, .ref ml, .ref mn, .int (nI se), .ref mk, .ref mg, .ref mh, .ref mq, .int (tn)])), (ma, .inl (E.2.1 1, 172, .inl (f)))] (Rt (some (.int (caM (outM rl th f) x (2 ^ nt)))) [(m0, .inr (5, [.ref ma, .int (nI nt), .int (nI pp), .int (th), .ref mp, .int (rn), .int (ro), .int (to), .int (wt), .int (hn), .int (ho), .ref mt, .int (nI tl), .int (fa), .int (bk), .int (ba), .int (spt), .int (hre), .int (tok), .int (val), .ref mc, .ref ml, .ref mn, .int (nI se), .ref mk, .ref mg, .ref mh, .ref mq, .int (tn)])), (ma, .inl (E.2.1 1, 172, .inl (f)))]) := by
  refine Ct.of (own := RX5) (nm := "comesAgain") (lv := [(0, .ref m0), (1, .int (x))]) (by decide) rfl rfl (Nat.le_of_ble_eq_true rfl) rfl ?_
  have h64 := p64 h_nt
  have h0p := p1 nt
  refine v_iload_n (pc := 0) 1 dX5_comesAgain_0 rfl rfl ?_
  refine v_istore_n (pc := 1) (lv' := [(2, .int (x)), (0, .ref m0), (1, .int (x))]) dX5_comesAgain_1 rfl (by decide) rfl ?_
  refine v_iconst (pc := 2) (v := 1) dX5_comesAgain_2 (by decide) ?_
  refine v_istore_n (pc := 3) (lv' := [(3, .int (1)), (2, .int (x)), (0, .ref m0), (1, .int (x))]) dX5_comesAgain_3 rfl (by decide) rfl ?_
  have loop_4 : ∀ (D_4 : Nat) (t : Nat) (v : Int32), 2 ^ nt + 1 - t < D_4 → (1 ≤ t ∧ t ≤ 2 ^ nt + 1) → (v = itr (outM rl th f) (t - 1) x) → (caM (outM rl th f) x (2 ^ nt) = lstF (fun t => decide (itr (outM rl th f) t x = x)) (2 ^ nt + 1 - t) t) → V l E RX5 cX5_comesAgain 4 (Option.some FieldType.int) "comesAgain" ({ frames := 2, cells := 0, slots := 0, locals := 47 }) [(m0, .inr (5, [.ref ma, .int (nI nt), .int (nI pp), .int (th), .ref mp, .int (rn), .int (ro), .int (to), .int (wt), .int (hn), .int (ho), .ref mt, .int (nI tl), .int (fa), .int (bk), .int (ba), .int (spt), .int (hre), .int (tok), .int (val), .ref mc, .ref ml, .ref mn, .int (nI se), .ref mk, .ref mg, .ref mh, .ref mq, .int (tn)])), (ma, .inl (E.2.1 1, 172, .inl (f)))] 0 0 (Rt (some (.int (caM (outM rl th f) x (2 ^ nt)))) [(m0, .inr (5, [.ref ma, .int (nI nt), .int (nI pp), .int (th), .ref mp, .int (rn), .int (ro), .int (to), .int (wt), .int (hn), .int (ho), .ref mt, .int (nI tl), .int (fa), .int (bk), .int (ba), .int (spt), .int (hre), .int (tok), .int (val), .ref mc, .ref ml, .ref mn, .int (nI se), .ref mk, .ref mg, .ref mh, .ref mq, .int (tn)])), (ma, .inl (E.2.1 1, 172, .inl (f)))]) 0 0 4 [(3, .int (nI t)), (2, .int (v)), (0, .ref m0), (1, .int (x))] [] [(m0, .inr (5, [.ref ma, .int (nI nt), .int (nI pp), .int (th), .ref mp, .int (rn), .int (ro), .int (to), .int (wt), .int (hn), .int (ho), .ref mt, .int (nI tl), .int (fa), .int (bk), .int (ba), .int (spt), .int (hre), .int (tok), .int (val), .ref mc, .ref ml, .ref mn, .int (nI se), .ref mk, .ref mg, .ref mh, .ref mq, .int (tn)])), (ma, .inl (E.2.1 1, 172, .inl (f)))] := by
    intro D_4
    induction D_4 with
    | zero => intro t v h; exact absurd h (Nat.not_lt_zero _)
    | succ D_4 ih_4 =>
      intro t v hmu_4 h_4_0 h_4_1 h_4_2
      refine v_iload_n (pc := 4) 0 dX5_comesAgain_4 rfl rfl ?_
      refine v_aload_n (pc := 5) 2 dX5_comesAgain_5 rfl rfl ?_
      refine v_callV (pc := 6) (rest := [.int (nI t)]) [0] 0 lk_1024 (c_X5_sets l E m0 ma mp mt mc ml mn mk mg mh mq nt pp tl se th rn ro to wt hn ho fa bk ba spt hre tok val tn (by first | assumption | omega)) dX5_comesAgain_6 rfl rfl (Nat.le_of_ble_eq_true rfl) (by decide) rfl rfl rfl (by decide) rfl (Rt.len rfl) (Rt.go ?_)
      refine v_w (ws' := [(m0, .inr (5, [.ref ma, .int (nI nt), .int (nI pp), .int (th), .ref mp, .int (rn), .int (ro), .int (to), .int (wt), .int (hn), .int (ho), .ref mt, .int (nI tl), .int (fa), .int (bk), .int (ba), .int (spt), .int (hre), .int (tok), .int (val), .ref mc, .ref ml, .ref mn, .int (nI se), .ref mk, .ref mg, .ref mh, .ref mq, .int (tn)])), (ma, .inl (E.2.1 1, 172, .inl (f)))]) rfl ?_
      refine v_st (st' := [.int (nI (2 ^ nt)), .int (nI t)]) rfl ?_
      refine v_cmpN_gt (pc := 9) (a := t) (b := 2 ^ nt) 31 dX5_comesAgain_9 (by decide) (by omega) (by omega) (fun c_9 => ?_) (fun c_9 => ?_)
      · skip
        refine v_bipush (pc := 31) (v := -4) dX5_comesAgain_31 (by decide) ?_
        refine v_iret (pc := 33) dX5_comesAgain_33 rfl ⟨rfl, rfl⟩ (Rt.i ?_)
        rw [h_4_2, show 2 ^ nt + 1 - t = 0 by omega]; rfl
      · skip
        have hit : itr (outM rl th f) t x = outM rl th f (itr (outM rl th f) (t - 1) x) := by
          obtain ⟨q, rfl⟩ : ∃ q, t = q + 1 := ⟨t - 1, by omega⟩
          rfl
        refine v_aload_n (pc := 12) 2 dX5_comesAgain_12 rfl rfl ?_
        refine v_iload_n (pc := 13) 1 dX5_comesAgain_13 rfl rfl ?_
        refine v_callV (pc := 14) (rest := []) [0, 1] 0 lk_1028 (c_X5_broughtBy l E m0 ma mp mt mc ml mn mk mg mh mq nt pp rl tl se th rn ro to wt hn ho fa bk ba spt hre tok val tn f v (by first | assumption | omega) (by first | assumption | omega)) dX5_comesAgain_14 rfl rfl (Nat.le_of_ble_eq_true rfl) (by decide) rfl rfl rfl (by decide) rfl (Rt.len rfl) (Rt.go ?_)
        refine v_w (ws' := [(m0, .inr (5, [.ref ma, .int (nI nt), .int (nI pp), .int (th), .ref mp, .int (rn), .int (ro), .int (to), .int (wt), .int (hn), .int (ho), .ref mt, .int (nI tl), .int (fa), .int (bk), .int (ba), .int (spt), .int (hre), .int (tok), .int (val), .ref mc, .ref ml, .ref mn, .int (nI se), .ref mk, .ref mg, .ref mh, .ref mq, .int (tn)])), (ma, .inl (E.2.1 1, 172, .inl (f)))]) rfl ?_
        refine v_st (st' := [.int (outM rl th f v)]) rfl ?_
        refine v_istore_n (pc := 17) (lv' := [(2, .int (outM rl th f v)), (3, .int (nI t)), (0, .ref m0), (1, .int (x))]) dX5_comesAgain_17 rfl (by decide) rfl ?_
        refine v_iload_n (pc := 18) 0 dX5_comesAgain_18 rfl rfl ?_
        refine v_iload_n (pc := 19) 3 dX5_comesAgain_19 rfl rfl ?_
        refine v_icmp_ne (pc := 20) 25 dX5_comesAgain_20 (by decide) (fun c_20 => ?_) (fun c_20 => ?_)
        · skip
          refine v_iinc (pc := 25) (v := nI (t + 1)) (lv' := [(3, .int (nI (t + 1))), (2, .int (outM rl th f v)), (0, .ref m0), (1, .int (x))]) 1 dX5_comesAgain_25 rfl (nI_inc (t) 1) (by decide) rfl ?_
          refine v_goto (pc := 28) 4 dX5_comesAgain_28 (by decide) ?_
          refine v_lv (lv' := [(3, .int (nI (t + 1))), (2, .int (outM rl th f v)), (0, .ref m0), (1, .int (x))]) [0, 1, 2, 3] rfl ?_
          refine ih_4 (t + 1) (outM rl th f v) (by omega) ?_ ?_ ?_
          · omega
          · rw [h_4_1, Nat.add_sub_cancel]; exact hit.symm
          · rw [h_4_2, show 2 ^ nt + 1 - t = (2 ^ nt + 1 - (t + 1)) + 1 by omega, lstF, if_neg (by rw [decide_eq_true_eq, hit, ← h_4_1]; exact c_20)]
        · skip
          refine v_iload_n (pc := 23) 1 dX5_comesAgain_23 rfl rfl ?_
          refine v_iret (pc := 24) dX5_comesAgain_24 rfl ⟨rfl, rfl⟩ (Rt.i ?_)
          rw [h_4_2, show 2 ^ nt + 1 - t = (2 ^ nt + 1 - (t + 1)) + 1 by omega, lstF, if_pos (by rw [decide_eq_true_eq, hit, ← h_4_1]; exact c_20)]
  refine v_lv (lv' := [(3, .int (nI 1)), (2, .int (x)), (0, .ref m0), (1, .int (x))]) [0, 1, 2, 3] rfl ?_
  refine loop_4 ((2 ^ nt + 1 - 1) + 1) 1 x (Nat.lt_succ_self _) ?_ ?_ ?_
  · omega
  · rfl
  · rfl
theorem c_X5_round (l : Launch) (E : VE) (m0 : Nat) (ma : Nat) (mp : Nat) (mt : Nat) (mc : Nat) (ml : Nat) (mn : Nat) (mk : Nat) (mg : Nat) (mh : Nat) (mq : Nat) (nt : Nat) (pp : Nat) (rl : Nat) (tl : Nat) (se : Nat) (th : Int32) (rn : Int32) (ro : Int32) (to : Int32) (wt : Int32) (hn : Int32) (ho : Int32) (fa : Int32) (bk : Int32) (ba : Int32) (spt : Int32) (hre : Int32) (tok : Int32) (val : Int32) (tn : Int32) (f : Nat → Int32) (x : Int32) (wh : Int32) (T : Nat) (h_rl : rl ≤ 8) (h_38 : f 38 = nI rl) (h_nt : nt ≤ 6) (h_x : ¬ x < 0 ∧ ¬ nI (2 ^ nt - 1) < x) (h_wh : ¬ wh < 0 ∧ ¬ 1 < wh) (h_T : T ≤ 64) (h_T1 : ¬ caM (outM rl th f) (itr (outM rl th f) T x) (2 ^ nt) = -4) (h_T2 : ∀ t, t < T → caM (outM rl th f) (itr (outM rl th f) t x) (2 ^ nt) = -4) : Ct l E yX5_round cX5_round 5 (Option.some FieldType.int) 3 70 0 0 [.ref m0, .int (x), .int (wh)] [(m0, .inr (5, [.ref ma, .int (nI nt), .int (nI pp), .int (th), .ref mp, .int (rn), .int (ro), .int (to), .int (wt), .int (hn), .int (ho), .ref mt, .int (nI tl), .int (fa), .int (bk), .int (ba), .int (spt), .int (hre), .int (tok), .int (val), .ref mc, .ref ml, .ref mn, .int (nI se), .ref mk, .ref mg, .ref mh, .ref mq, .int (tn)])), (ma, .inl (E.2.1 1, 172, .inl (f)))] (Rt (some (.int (if wh = 0 then nI T else caM (outM rl th f) (itr (outM rl th f) T x) (2 ^ nt)))) [(m0, .inr (5, [.ref ma, .int (nI nt), .int (nI pp), .int (th), .ref mp, .int (rn), .int (ro), .int (to), .int (wt), .int (hn), .int (ho), .ref mt, .int (nI tl), .int (fa), .int (bk), .int (ba), .int (spt), .int (hre), .int (tok), .int (val), .ref mc, .ref ml, .ref mn, .int (nI se), .ref mk, .ref mg, .ref mh, .ref mq, .int (tn)])), (ma, .inl (E.2.1 1, 172, .inl (f)))]) := by
  refine Ct.of (own := RX5) (nm := "round") (lv := [(0, .ref m0), (1, .int (x)), (2, .int (wh))]) (by decide) rfl rfl (Nat.le_of_ble_eq_true rfl) rfl ?_
  refine v_aload_n (pc := 0) 0 dX5_round_0 rfl rfl ?_
  refine v_iload_n (pc := 1) 1 dX5_round_1 rfl rfl ?_
  refine v_callV (pc := 2) (rest := []) [0] 0 lk_1020 (c_X5_isSet l E m0 ma mp mt mc ml mn mk mg mh mq nt pp tl se th rn ro to wt hn ho fa bk ba spt hre tok val tn x (by first | assumption | omega)) dX5_round_2 rfl rfl (Nat.le_of_ble_eq_true rfl) (by decide) rfl rfl rfl (by decide) rfl (Rt.len rfl) (Rt.go ?_)
  refine v_w (ws' := [(m0, .inr (5, [.ref ma, .int (nI nt), .int (nI pp), .int (th), .ref mp, .int (rn), .int (ro), .int (to), .int (wt), .int (hn), .int (ho), .ref mt, .int (nI tl), .int (fa), .int (bk), .int (ba), .int (spt), .int (hre), .int (tok), .int (val), .ref mc, .ref ml, .ref mn, .int (nI se), .ref mk, .ref mg, .ref mh, .ref mq, .int (tn)])), (ma, .inl (E.2.1 1, 172, .inl (f)))]) rfl ?_
  refine v_st (st' := [.int (if ¬ x < 0 ∧ ¬ nI (2 ^ nt - 1) < x then 1 else 0)]) rfl ?_
  refine v_ifB_eq (pc := 5) 18 dX5_round_5 (by decide) (fun c_5 => ?_) (fun c_5 => ?_)
  · skip
    refine v_iconst (pc := 18) (v := -1) dX5_round_18 (by decide) ?_
    refine v_iret (pc := 19) dX5_round_19 rfl ⟨rfl, rfl⟩ (Rt.i ?_)
    exact absurd h_x c_5
  · skip
    refine v_iload_n (pc := 8) 2 dX5_round_8 rfl rfl ?_
    refine v_i2l (pc := 9) dX5_round_9 ?_
    refine v_lconst (pc := 10) (v := 0) dX5_round_10 (by decide) ?_
    refine v_lconst (pc := 11) (v := 1) dX5_round_11 (by decide) ?_
    refine v_callS (pc := 12) (rest := []) [] lk_880 (c_X5_in l E (Int32.toInt64 (wh)) 0 1) dX5_round_12 rfl rfl (Nat.le_of_ble_eq_true rfl) (by decide) (by decide) rfl (Rt.len rfl) (Rt.go ?_)
    refine v_w (ws' := [(m0, .inr (5, [.ref ma, .int (nI nt), .int (nI pp), .int (th), .ref mp, .int (rn), .int (ro), .int (to), .int (wt), .int (hn), .int (ho), .ref mt, .int (nI tl), .int (fa), .int (bk), .int (ba), .int (spt), .int (hre), .int (tok), .int (val), .ref mc, .ref ml, .ref mn, .int (nI se), .ref mk, .ref mg, .ref mh, .ref mq, .int (tn)])), (ma, .inl (E.2.1 1, 172, .inl (f)))]) rfl ?_
    refine v_st (st' := [.int (if ¬ (Int32.toInt64 (wh)) < 0 ∧ ¬ 1 < (Int32.toInt64 (wh)) then 1 else 0)]) rfl ?_
    refine v_st (st' := [.int (if ¬ wh < 0 ∧ ¬ 1 < wh then 1 else 0)]) (ite_st (inK (a := 0) (b := 1)) _) ?_
    refine v_ifB_ne (pc := 15) 20 dX5_round_15 (by decide) (fun c_15 => ?_) (fun c_15 => ?_)
    · skip
      refine v_iconst (pc := 20) (v := 0) dX5_round_20 (by decide) ?_
      refine v_istore_n (pc := 21) (lv' := [(3, .int (0)), (0, .ref m0), (1, .int (x)), (2, .int (wh))]) dX5_round_21 rfl (by decide) rfl ?_
      refine v_iload_n (pc := 22) 2 dX5_round_22 rfl rfl ?_
      refine v_istore (pc := 23) (lv' := [(4, .int (x)), (3, .int (0)), (0, .ref m0), (1, .int (x)), (2, .int (wh))]) dX5_round_23 (by decide) rfl ?_
      have loop_25 : ∀ (D_25 : Nat) (t : Nat) (v : Int32), T - t < D_25 → (t ≤ T) → (v = itr (outM rl th f) t x) → V l E RX5 cX5_round 5 (Option.some FieldType.int) "round" ({ frames := 3, cells := 0, slots := 0, locals := 70 }) [(m0, .inr (5, [.ref ma, .int (nI nt), .int (nI pp), .int (th), .ref mp, .int (rn), .int (ro), .int (to), .int (wt), .int (hn), .int (ho), .ref mt, .int (nI tl), .int (fa), .int (bk), .int (ba), .int (spt), .int (hre), .int (tok), .int (val), .ref mc, .ref ml, .ref mn, .int (nI se), .ref mk, .ref mg, .ref mh, .ref mq, .int (tn)])), (ma, .inl (E.2.1 1, 172, .inl (f)))] 0 0 (Rt (some (.int (if wh = 0 then nI T else caM (outM rl th f) (itr (outM rl th f) T x) (2 ^ nt)))) [(m0, .inr (5, [.ref ma, .int (nI nt), .int (nI pp), .int (th), .ref mp, .int (rn), .int (ro), .int (to), .int (wt), .int (hn), .int (ho), .ref mt, .int (nI tl), .int (fa), .int (bk), .int (ba), .int (spt), .int (hre), .int (tok), .int (val), .ref mc, .ref ml, .ref mn, .int (nI se), .ref mk, .ref mg, .ref mh, .ref mq, .int (tn)])), (ma, .inl (E.2.1 1, 172, .inl (f)))]) 0 0 25 [(3, .int (nI t)), (4, .int (v)), (0, .ref m0), (1, .int (x)), (2, .int (wh))] [] [(m0, .inr (5, [.ref ma, .int (nI nt), .int (nI pp), .int (th), .ref mp, .int (rn), .int (ro), .int (to), .int (wt), .int (hn), .int (ho), .ref mt, .int (nI tl), .int (fa), .int (bk), .int (ba), .int (spt), .int (hre), .int (tok), .int (val), .ref mc, .ref ml, .ref mn, .int (nI se), .ref mk, .ref mg, .ref mh, .ref mq, .int (tn)])), (ma, .inl (E.2.1 1, 172, .inl (f)))] := by
        intro D_25
        induction D_25 with
        | zero => intro t v h; exact absurd h (Nat.not_lt_zero _)
        | succ D_25 ih_25 =>
          intro t v hmu_25 h_25_0 h_25_1
          refine v_aload_n (pc := 25) 2 dX5_round_25 rfl rfl ?_
          refine v_iload (pc := 26) 1 dX5_round_26 rfl ?_
          refine v_callV (pc := 28) (rest := []) [0, 1] 0 lk_1049 (c_X5_comesAgain l E m0 ma mp mt mc ml mn mk mg mh mq nt pp rl tl se th rn ro to wt hn ho fa bk ba spt hre tok val tn f v (by first | assumption | omega) (by first | assumption | omega) (by first | assumption | omega)) dX5_round_28 rfl rfl (Nat.le_of_ble_eq_true rfl) (by decide) rfl rfl rfl (by decide) rfl (Rt.len rfl) (Rt.go ?_)
          refine v_w (ws' := [(m0, .inr (5, [.ref ma, .int (nI nt), .int (nI pp), .int (th), .ref mp, .int (rn), .int (ro), .int (to), .int (wt), .int (hn), .int (ho), .ref mt, .int (nI tl), .int (fa), .int (bk), .int (ba), .int (spt), .int (hre), .int (tok), .int (val), .ref mc, .ref ml, .ref mn, .int (nI se), .ref mk, .ref mg, .ref mh, .ref mq, .int (tn)])), (ma, .inl (E.2.1 1, 172, .inl (f)))]) rfl ?_
          refine v_st (st' := [.int (caM (outM rl th f) v (2 ^ nt))]) rfl ?_
          refine v_bipush (pc := 31) (v := -4) dX5_round_31 (by decide) ?_
          refine v_icmp_ne (pc := 33) 50 dX5_round_33 (by decide) (fun c_33 => ?_) (fun c_33 => ?_)
          · skip
            have htT : t = T := by
              rcases Nat.lt_or_ge t T with z | z
              · exact absurd (by rw [h_25_1]; exact h_T2 t z) c_33
              · omega
            refine v_iload_n (pc := 50) 4 dX5_round_50 rfl rfl ?_
            refine v_if_ne (pc := 51) 58 dX5_round_51 (by decide) (fun c_51 => ?_) (fun c_51 => ?_)
            · skip
              refine v_aload_n (pc := 58) 2 dX5_round_58 rfl rfl ?_
              refine v_iload (pc := 59) 1 dX5_round_59 rfl ?_
              refine v_callV (pc := 61) (rest := []) [0, 1] 0 lk_1049 (c_X5_comesAgain l E m0 ma mp mt mc ml mn mk mg mh mq nt pp rl tl se th rn ro to wt hn ho fa bk ba spt hre tok val tn f v (by first | assumption | omega) (by first | assumption | omega) (by first | assumption | omega)) dX5_round_61 rfl rfl (Nat.le_of_ble_eq_true rfl) (by decide) rfl rfl rfl (by decide) rfl (Rt.len rfl) (Rt.go ?_)
              refine v_w (ws' := [(m0, .inr (5, [.ref ma, .int (nI nt), .int (nI pp), .int (th), .ref mp, .int (rn), .int (ro), .int (to), .int (wt), .int (hn), .int (ho), .ref mt, .int (nI tl), .int (fa), .int (bk), .int (ba), .int (spt), .int (hre), .int (tok), .int (val), .ref mc, .ref ml, .ref mn, .int (nI se), .ref mk, .ref mg, .ref mh, .ref mq, .int (tn)])), (ma, .inl (E.2.1 1, 172, .inl (f)))]) rfl ?_
              refine v_st (st' := [.int (caM (outM rl th f) v (2 ^ nt))]) rfl ?_
              refine v_iret (pc := 64) dX5_round_64 rfl ⟨rfl, rfl⟩ (Rt.i ?_)
              rw [if_neg c_51, h_25_1, htT]
            · skip
              refine v_iload_n (pc := 54) 0 dX5_round_54 rfl rfl ?_
              refine v_goto (pc := 55) 64 dX5_round_55 (by decide) ?_
              refine v_iret (pc := 64) dX5_round_64 rfl ⟨rfl, rfl⟩ (Rt.i ?_)
              rw [if_pos c_51, htT]
          · skip
            have htT : t < T := by
              rcases Nat.lt_or_ge t T with z | z
              · exact z
              · obtain rfl : t = T := by omega
                exact absurd (by rw [← h_25_1]; exact c_33) h_T1
            refine v_aload_n (pc := 36) 2 dX5_round_36 rfl rfl ?_
            refine v_iload (pc := 37) 1 dX5_round_37 rfl ?_
            refine v_callV (pc := 39) (rest := []) [0, 1] 0 lk_1028 (c_X5_broughtBy l E m0 ma mp mt mc ml mn mk mg mh mq nt pp rl tl se th rn ro to wt hn ho fa bk ba spt hre tok val tn f v (by first | assumption | omega) (by first | assumption | omega)) dX5_round_39 rfl rfl (Nat.le_of_ble_eq_true rfl) (by decide) rfl rfl rfl (by decide) rfl (Rt.len rfl) (Rt.go ?_)
            refine v_w (ws' := [(m0, .inr (5, [.ref ma, .int (nI nt), .int (nI pp), .int (th), .ref mp, .int (rn), .int (ro), .int (to), .int (wt), .int (hn), .int (ho), .ref mt, .int (nI tl), .int (fa), .int (bk), .int (ba), .int (spt), .int (hre), .int (tok), .int (val), .ref mc, .ref ml, .ref mn, .int (nI se), .ref mk, .ref mg, .ref mh, .ref mq, .int (tn)])), (ma, .inl (E.2.1 1, 172, .inl (f)))]) rfl ?_
            refine v_st (st' := [.int (outM rl th f v)]) rfl ?_
            refine v_istore (pc := 42) (lv' := [(4, .int (outM rl th f v)), (3, .int (nI t)), (0, .ref m0), (1, .int (x)), (2, .int (wh))]) dX5_round_42 (by decide) rfl ?_
            refine v_iinc (pc := 44) (v := nI (t + 1)) (lv' := [(3, .int (nI (t + 1))), (4, .int (outM rl th f v)), (0, .ref m0), (1, .int (x)), (2, .int (wh))]) 1 dX5_round_44 rfl (nI_inc (t) 1) (by decide) rfl ?_
            refine v_goto (pc := 47) 25 dX5_round_47 (by decide) ?_
            refine v_lv (lv' := [(3, .int (nI (t + 1))), (4, .int (outM rl th f v)), (0, .ref m0), (1, .int (x)), (2, .int (wh))]) [0, 1, 2, 3, 4] rfl ?_
            refine ih_25 (t + 1) (outM rl th f v) (by omega) ?_ ?_
            · omega
            · rw [h_25_1]; rfl
      refine v_lv (lv' := [(3, .int (nI 0)), (4, .int (x)), (0, .ref m0), (1, .int (x)), (2, .int (wh))]) [1, 0, 2, 3, 4] rfl ?_
      refine loop_25 ((T - 0) + 1) 0 x (Nat.lt_succ_self _) ?_ ?_
      · omega
      · rfl
    · skip
      refine v_iconst (pc := 18) (v := -1) dX5_round_18 (by decide) ?_
      refine v_iret (pc := 19) dX5_round_19 rfl ⟨rfl, rfl⟩ (Rt.i ?_)
      exact absurd h_wh c_15
theorem cB_X5_round (l : Launch) (E : VE) (m0 : Nat) (ma : Nat) (mp : Nat) (mt : Nat) (mc : Nat) (ml : Nat) (mn : Nat) (mk : Nat) (mg : Nat) (mh : Nat) (mq : Nat) (nt : Nat) (pp : Nat) (tl : Nat) (se : Nat) (th : Int32) (rn : Int32) (ro : Int32) (to : Int32) (wt : Int32) (hn : Int32) (ho : Int32) (fa : Int32) (bk : Int32) (ba : Int32) (spt : Int32) (hre : Int32) (tok : Int32) (val : Int32) (tn : Int32) (x : Int32) (wh : Int32) (h_nt : nt ≤ 6) (h_bad : ¬ ((¬ x < 0 ∧ ¬ nI (2 ^ nt - 1) < x) ∧ (¬ wh < 0 ∧ ¬ 1 < wh))) : Ct l E yX5_round cX5_round 5 (Option.some FieldType.int) 2 46 0 0 [.ref m0, .int (x), .int (wh)] [(m0, .inr (5, [.ref ma, .int (nI nt), .int (nI pp), .int (th), .ref mp, .int (rn), .int (ro), .int (to), .int (wt), .int (hn), .int (ho), .ref mt, .int (nI tl), .int (fa), .int (bk), .int (ba), .int (spt), .int (hre), .int (tok), .int (val), .ref mc, .ref ml, .ref mn, .int (nI se), .ref mk, .ref mg, .ref mh, .ref mq, .int (tn)]))] (Rt (some (.int (-1))) [(m0, .inr (5, [.ref ma, .int (nI nt), .int (nI pp), .int (th), .ref mp, .int (rn), .int (ro), .int (to), .int (wt), .int (hn), .int (ho), .ref mt, .int (nI tl), .int (fa), .int (bk), .int (ba), .int (spt), .int (hre), .int (tok), .int (val), .ref mc, .ref ml, .ref mn, .int (nI se), .ref mk, .ref mg, .ref mh, .ref mq, .int (tn)]))]) := by
  refine Ct.of (own := RX5) (nm := "round") (lv := [(0, .ref m0), (1, .int (x)), (2, .int (wh))]) (by decide) rfl rfl (Nat.le_of_ble_eq_true rfl) rfl ?_
  refine v_aload_n (pc := 0) 0 dX5_round_0 rfl rfl ?_
  refine v_iload_n (pc := 1) 1 dX5_round_1 rfl rfl ?_
  refine v_callV (pc := 2) (rest := []) [0] 0 lk_1020 (c_X5_isSet l E m0 ma mp mt mc ml mn mk mg mh mq nt pp tl se th rn ro to wt hn ho fa bk ba spt hre tok val tn x (by first | assumption | omega)) dX5_round_2 rfl rfl (Nat.le_of_ble_eq_true rfl) (by decide) rfl rfl rfl (by decide) rfl (Rt.len rfl) (Rt.go ?_)
  refine v_w (ws' := [(m0, .inr (5, [.ref ma, .int (nI nt), .int (nI pp), .int (th), .ref mp, .int (rn), .int (ro), .int (to), .int (wt), .int (hn), .int (ho), .ref mt, .int (nI tl), .int (fa), .int (bk), .int (ba), .int (spt), .int (hre), .int (tok), .int (val), .ref mc, .ref ml, .ref mn, .int (nI se), .ref mk, .ref mg, .ref mh, .ref mq, .int (tn)]))]) rfl ?_
  refine v_st (st' := [.int (if ¬ x < 0 ∧ ¬ nI (2 ^ nt - 1) < x then 1 else 0)]) rfl ?_
  refine v_ifB_eq (pc := 5) 18 dX5_round_5 (by decide) (fun c_5 => ?_) (fun c_5 => ?_)
  · skip
    refine v_iconst (pc := 18) (v := -1) dX5_round_18 (by decide) ?_
    refine v_iret (pc := 19) dX5_round_19 rfl ⟨rfl, rfl⟩ (Rt.i ?_)
    first | simp only [if_neg c_5] | rfl
  · skip
    refine v_iload_n (pc := 8) 2 dX5_round_8 rfl rfl ?_
    refine v_i2l (pc := 9) dX5_round_9 ?_
    refine v_lconst (pc := 10) (v := 0) dX5_round_10 (by decide) ?_
    refine v_lconst (pc := 11) (v := 1) dX5_round_11 (by decide) ?_
    refine v_callS (pc := 12) (rest := []) [] lk_880 (c_X5_in l E (Int32.toInt64 (wh)) 0 1) dX5_round_12 rfl rfl (Nat.le_of_ble_eq_true rfl) (by decide) (by decide) rfl (Rt.len rfl) (Rt.go ?_)
    refine v_w (ws' := [(m0, .inr (5, [.ref ma, .int (nI nt), .int (nI pp), .int (th), .ref mp, .int (rn), .int (ro), .int (to), .int (wt), .int (hn), .int (ho), .ref mt, .int (nI tl), .int (fa), .int (bk), .int (ba), .int (spt), .int (hre), .int (tok), .int (val), .ref mc, .ref ml, .ref mn, .int (nI se), .ref mk, .ref mg, .ref mh, .ref mq, .int (tn)]))]) rfl ?_
    refine v_st (st' := [.int (if ¬ (Int32.toInt64 (wh)) < 0 ∧ ¬ 1 < (Int32.toInt64 (wh)) then 1 else 0)]) rfl ?_
    refine v_st (st' := [.int (if ¬ wh < 0 ∧ ¬ 1 < wh then 1 else 0)]) (ite_st (inK (a := 0) (b := 1)) _) ?_
    refine v_ifB_ne (pc := 15) 20 dX5_round_15 (by decide) (fun c_15 => ?_) (fun c_15 => ?_)
    · skip
      exact absurd ⟨c_5, c_15⟩ h_bad
    · skip
      refine v_iconst (pc := 18) (v := -1) dX5_round_18 (by decide) ?_
      refine v_iret (pc := 19) dX5_round_19 rfl ⟨rfl, rfl⟩ (Rt.i ?_)
      first | simp only [if_pos c_5, if_neg c_15] | rfl
theorem c_X5_brings (l : Launch) (E : VE) (m0 : Nat) (ma : Nat) (mp : Nat) (mt : Nat) (mc : Nat) (ml : Nat) (mn : Nat) (mk : Nat) (mg : Nat) (mh : Nat) (mq : Nat) (nt : Nat) (pp : Nat) (rl : Nat) (tl : Nat) (se : Nat) (th : Int32) (rn : Int32) (ro : Int32) (to : Int32) (wt : Int32) (hn : Int32) (ho : Int32) (fa : Int32) (bk : Int32) (ba : Int32) (spt : Int32) (hre : Int32) (tok : Int32) (val : Int32) (tn : Int32) (f : Nat → Int32) (x : Int32) (h_rl : rl ≤ 8) (h_38 : f 38 = nI rl) (h_nt : nt ≤ 6) : Ct l E yX5_brings cX5_brings 2 (Option.some FieldType.int) 2 47 0 0 [.ref m0, .int (x)] [(m0, .inr (5, [.ref ma, .int (nI nt), .int (nI pp), .int (th), .ref mp, .int (rn), .int (ro), .int (to), .int (wt), .int (hn), .int (ho), .ref mt, .int (nI tl), .int (fa), .int (bk), .int (ba), .int (spt), .int (hre), .int (tok), .int (val), .ref mc, .ref ml, .ref mn, .int (nI se), .ref mk, .ref mg, .ref mh, .ref mq, .int (tn)])), (ma, .inl (E.2.1 1, 172, .inl (f)))] (Rt (some (.int (if ¬ x < 0 ∧ ¬ nI (2 ^ nt - 1) < x then outM rl th f x else -1))) [(m0, .inr (5, [.ref ma, .int (nI nt), .int (nI pp), .int (th), .ref mp, .int (rn), .int (ro), .int (to), .int (wt), .int (hn), .int (ho), .ref mt, .int (nI tl), .int (fa), .int (bk), .int (ba), .int (spt), .int (hre), .int (tok), .int (val), .ref mc, .ref ml, .ref mn, .int (nI se), .ref mk, .ref mg, .ref mh, .ref mq, .int (tn)])), (ma, .inl (E.2.1 1, 172, .inl (f)))]) := by
  refine Ct.of (own := RX5) (nm := "brings") (lv := [(0, .ref m0), (1, .int (x))]) (by decide) rfl rfl (Nat.le_of_ble_eq_true rfl) rfl ?_
  refine v_aload_n (pc := 0) 0 dX5_brings_0 rfl rfl ?_
  refine v_iload_n (pc := 1) 1 dX5_brings_1 rfl rfl ?_
  refine v_callV (pc := 2) (rest := []) [0] 0 lk_1020 (c_X5_isSet l E m0 ma mp mt mc ml mn mk mg mh mq nt pp tl se th rn ro to wt hn ho fa bk ba spt hre tok val tn x (by first | assumption | omega)) dX5_brings_2 rfl rfl (Nat.le_of_ble_eq_true rfl) (by decide) rfl rfl rfl (by decide) rfl (Rt.len rfl) (Rt.go ?_)
  refine v_w (ws' := [(m0, .inr (5, [.ref ma, .int (nI nt), .int (nI pp), .int (th), .ref mp, .int (rn), .int (ro), .int (to), .int (wt), .int (hn), .int (ho), .ref mt, .int (nI tl), .int (fa), .int (bk), .int (ba), .int (spt), .int (hre), .int (tok), .int (val), .ref mc, .ref ml, .ref mn, .int (nI se), .ref mk, .ref mg, .ref mh, .ref mq, .int (tn)])), (ma, .inl (E.2.1 1, 172, .inl (f)))]) rfl ?_
  refine v_st (st' := [.int (if ¬ x < 0 ∧ ¬ nI (2 ^ nt - 1) < x then 1 else 0)]) rfl ?_
  refine v_ifB_eq (pc := 5) 16 dX5_brings_5 (by decide) (fun c_5 => ?_) (fun c_5 => ?_)
  · skip
    refine v_iconst (pc := 16) (v := -1) dX5_brings_16 (by decide) ?_
    refine v_iret (pc := 17) dX5_brings_17 rfl ⟨rfl, rfl⟩ (Rt.i ?_)
    first | simp only [if_neg c_5] | rfl
  · skip
    refine v_aload_n (pc := 8) 0 dX5_brings_8 rfl rfl ?_
    refine v_iload_n (pc := 9) 1 dX5_brings_9 rfl rfl ?_
    refine v_callV (pc := 10) (rest := []) [0, 1] 0 lk_1028 (c_X5_broughtBy l E m0 ma mp mt mc ml mn mk mg mh mq nt pp rl tl se th rn ro to wt hn ho fa bk ba spt hre tok val tn f x (by first | assumption | omega) (by first | assumption | omega)) dX5_brings_10 rfl rfl (Nat.le_of_ble_eq_true rfl) (by decide) rfl rfl rfl (by decide) rfl (Rt.len rfl) (Rt.go ?_)
    refine v_w (ws' := [(m0, .inr (5, [.ref ma, .int (nI nt), .int (nI pp), .int (th), .ref mp, .int (rn), .int (ro), .int (to), .int (wt), .int (hn), .int (ho), .ref mt, .int (nI tl), .int (fa), .int (bk), .int (ba), .int (spt), .int (hre), .int (tok), .int (val), .ref mc, .ref ml, .ref mn, .int (nI se), .ref mk, .ref mg, .ref mh, .ref mq, .int (tn)])), (ma, .inl (E.2.1 1, 172, .inl (f)))]) rfl ?_
    refine v_st (st' := [.int (outM rl th f x)]) rfl ?_
    refine v_goto (pc := 13) 17 dX5_brings_13 (by decide) ?_
    refine v_iret (pc := 17) dX5_brings_17 rfl ⟨rfl, rfl⟩ (Rt.i ?_)
    first | simp only [if_pos c_5] | rfl
theorem c_X5_agreeing (l : Launch) (E : VE) (m0 : Nat) (ma : Nat) (mp : Nat) (mt : Nat) (mc : Nat) (ml : Nat) (mn : Nat) (mk : Nat) (mg : Nat) (mh : Nat) (mq : Nat) (nt : Nat) (pp : Nat) (rl : Nat) (tl : Nat) (se : Nat) (th : Int32) (rn : Int32) (ro : Int32) (to : Int32) (wt : Int32) (hn : Int32) (ho : Int32) (fa : Int32) (bk : Int32) (ba : Int32) (spt : Int32) (hre : Int32) (tok : Int32) (val : Int32) (tn : Int32) (f : Nat → Int32) (h_rl : rl ≤ 8) (h_38 : f 38 = nI rl) (h_nt : nt ≤ 6) : Ct l E yX5_agreeing cX5_agreeing 3 (Option.some FieldType.int) 3 68 0 0 [.ref m0] [(m0, .inr (5, [.ref ma, .int (nI nt), .int (nI pp), .int (th), .ref mp, .int (rn), .int (ro), .int (to), .int (wt), .int (hn), .int (ho), .ref mt, .int (nI tl), .int (fa), .int (bk), .int (ba), .int (spt), .int (hre), .int (tok), .int (val), .ref mc, .ref ml, .ref mn, .int (nI se), .ref mk, .ref mg, .ref mh, .ref mq, .int (tn)])), (ma, .inl (E.2.1 1, 172, .inl (f)))] (Rt (some (.int (nI (cntM (agM rl th f) (2 ^ nt))))) [(m0, .inr (5, [.ref ma, .int (nI nt), .int (nI pp), .int (th), .ref mp, .int (rn), .int (ro), .int (to), .int (wt), .int (hn), .int (ho), .ref mt, .int (nI tl), .int (fa), .int (bk), .int (ba), .int (spt), .int (hre), .int (tok), .int (val), .ref mc, .ref ml, .ref mn, .int (nI se), .ref mk, .ref mg, .ref mh, .ref mq, .int (tn)])), (ma, .inl (E.2.1 1, 172, .inl (f)))]) := by
  refine Ct.of (own := RX5) (nm := "agreeing") (lv := [(0, .ref m0)]) (by decide) rfl rfl (Nat.le_of_ble_eq_true rfl) rfl ?_
  have h64 := p64 h_nt
  have h0p := p1 nt
  refine v_iconst (pc := 0) (v := 0) dX5_agreeing_0 (by decide) ?_
  refine v_istore_n (pc := 1) (lv' := [(1, .int (0)), (0, .ref m0)]) dX5_agreeing_1 rfl (by decide) rfl ?_
  refine v_iconst (pc := 2) (v := 0) dX5_agreeing_2 (by decide) ?_
  refine v_istore_n (pc := 3) (lv' := [(2, .int (0)), (1, .int (0)), (0, .ref m0)]) dX5_agreeing_3 rfl (by decide) rfl ?_
  have loop_4 : ∀ (D_4 : Nat) (i : Nat) (a : Nat), 2 ^ nt - i < D_4 → (i ≤ 2 ^ nt) → (a = cntM (agM rl th f) i) → V l E RX5 cX5_agreeing 3 (Option.some FieldType.int) "agreeing" ({ frames := 3, cells := 0, slots := 0, locals := 68 }) [(m0, .inr (5, [.ref ma, .int (nI nt), .int (nI pp), .int (th), .ref mp, .int (rn), .int (ro), .int (to), .int (wt), .int (hn), .int (ho), .ref mt, .int (nI tl), .int (fa), .int (bk), .int (ba), .int (spt), .int (hre), .int (tok), .int (val), .ref mc, .ref ml, .ref mn, .int (nI se), .ref mk, .ref mg, .ref mh, .ref mq, .int (tn)])), (ma, .inl (E.2.1 1, 172, .inl (f)))] 0 0 (Rt (some (.int (nI (cntM (agM rl th f) (2 ^ nt))))) [(m0, .inr (5, [.ref ma, .int (nI nt), .int (nI pp), .int (th), .ref mp, .int (rn), .int (ro), .int (to), .int (wt), .int (hn), .int (ho), .ref mt, .int (nI tl), .int (fa), .int (bk), .int (ba), .int (spt), .int (hre), .int (tok), .int (val), .ref mc, .ref ml, .ref mn, .int (nI se), .ref mk, .ref mg, .ref mh, .ref mq, .int (tn)])), (ma, .inl (E.2.1 1, 172, .inl (f)))]) 0 0 4 [(2, .int (nI i)), (1, .int (nI a)), (0, .ref m0)] [] [(m0, .inr (5, [.ref ma, .int (nI nt), .int (nI pp), .int (th), .ref mp, .int (rn), .int (ro), .int (to), .int (wt), .int (hn), .int (ho), .ref mt, .int (nI tl), .int (fa), .int (bk), .int (ba), .int (spt), .int (hre), .int (tok), .int (val), .ref mc, .ref ml, .ref mn, .int (nI se), .ref mk, .ref mg, .ref mh, .ref mq, .int (tn)])), (ma, .inl (E.2.1 1, 172, .inl (f)))] := by
    intro D_4
    induction D_4 with
    | zero => intro i a h; exact absurd h (Nat.not_lt_zero _)
    | succ D_4 ih_4 =>
      intro i a hmu_4 h_4_0 h_4_1
      refine v_iload_n (pc := 4) 0 dX5_agreeing_4 rfl rfl ?_
      refine v_aload_n (pc := 5) 2 dX5_agreeing_5 rfl rfl ?_
      refine v_callV (pc := 6) (rest := [.int (nI i)]) [0] 0 lk_1024 (c_X5_sets l E m0 ma mp mt mc ml mn mk mg mh mq nt pp tl se th rn ro to wt hn ho fa bk ba spt hre tok val tn (by first | assumption | omega)) dX5_agreeing_6 rfl rfl (Nat.le_of_ble_eq_true rfl) (by decide) rfl rfl rfl (by decide) rfl (Rt.len rfl) (Rt.go ?_)
      refine v_w (ws' := [(m0, .inr (5, [.ref ma, .int (nI nt), .int (nI pp), .int (th), .ref mp, .int (rn), .int (ro), .int (to), .int (wt), .int (hn), .int (ho), .ref mt, .int (nI tl), .int (fa), .int (bk), .int (ba), .int (spt), .int (hre), .int (tok), .int (val), .ref mc, .ref ml, .ref mn, .int (nI se), .ref mk, .ref mg, .ref mh, .ref mq, .int (tn)])), (ma, .inl (E.2.1 1, 172, .inl (f)))]) rfl ?_
      refine v_st (st' := [.int (nI (2 ^ nt)), .int (nI i)]) rfl ?_
      refine v_cmpN_ge (pc := 9) (a := i) (b := 2 ^ nt) 34 dX5_agreeing_9 (by decide) (by omega) (by omega) (fun c_9 => ?_) (fun c_9 => ?_)
      · skip
        refine v_iload_n (pc := 34) 1 dX5_agreeing_34 rfl rfl ?_
        refine v_iret (pc := 35) dX5_agreeing_35 rfl ⟨rfl, rfl⟩ (Rt.i ?_)
        obtain rfl : i = 2 ^ nt := by omega
        rw [h_4_1]
      · skip
        refine v_iload_n (pc := 12) 1 dX5_agreeing_12 rfl rfl ?_
        refine v_aload_n (pc := 13) 2 dX5_agreeing_13 rfl rfl ?_
        refine v_iload_n (pc := 14) 0 dX5_agreeing_14 rfl rfl ?_
        refine v_callV (pc := 15) (rest := [.int (nI a)]) [0, 1] 0 lk_1057 (c_X5_agrees l E m0 ma mp mt mc ml mn mk mg mh mq nt pp rl tl se th rn ro to wt hn ho fa bk ba spt hre tok val tn f (nI i) (by first | assumption | omega) (by first | assumption | omega)) dX5_agreeing_15 rfl rfl (Nat.le_of_ble_eq_true rfl) (by decide) rfl rfl rfl (by decide) rfl (Rt.len rfl) (Rt.go ?_)
        refine v_w (ws' := [(m0, .inr (5, [.ref ma, .int (nI nt), .int (nI pp), .int (th), .ref mp, .int (rn), .int (ro), .int (to), .int (wt), .int (hn), .int (ho), .ref mt, .int (nI tl), .int (fa), .int (bk), .int (ba), .int (spt), .int (hre), .int (tok), .int (val), .ref mc, .ref ml, .ref mn, .int (nI se), .ref mk, .ref mg, .ref mh, .ref mq, .int (tn)])), (ma, .inl (E.2.1 1, 172, .inl (f)))]) rfl ?_
        refine v_st (st' := [.int (if outM rl th f (nI i) = (nI i) then 1 else 0), .int (nI a)]) rfl ?_
        refine v_ifB_eq (pc := 18) 25 dX5_agreeing_18 (by decide) (fun c_18 => ?_) (fun c_18 => ?_)
        · skip
          refine v_iconst (pc := 25) (v := 0) dX5_agreeing_25 (by decide) ?_
          refine v_iadd (pc := 26) dX5_agreeing_26 ?_
          refine v_st (st' := [.int (nI (a + 0))]) (congrArg (fun z => Value.int z :: _) (nI_add a 0)) ?_
          refine v_istore_n (pc := 27) (lv' := [(1, .int (nI (a + 0))), (2, .int (nI i)), (0, .ref m0)]) dX5_agreeing_27 rfl (by decide) rfl ?_
          refine v_iinc (pc := 28) (v := nI (i + 1)) (lv' := [(2, .int (nI (i + 1))), (1, .int (nI (a + 0))), (0, .ref m0)]) 1 dX5_agreeing_28 rfl (nI_inc (i) 1) (by decide) rfl ?_
          refine v_goto (pc := 31) 4 dX5_agreeing_31 (by decide) ?_
          refine v_lv (lv' := [(2, .int (nI (i + 1))), (1, .int (nI (a + 0))), (0, .ref m0)]) [0, 1, 2] rfl ?_
          refine ih_4 (i + 1) (a + 0) (by omega) ?_ ?_
          · omega
          · simp only [cntM]; rw [← h_4_1, if_neg (by simpa [agM] using c_18)]
        · skip
          refine v_iconst (pc := 21) (v := 1) dX5_agreeing_21 (by decide) ?_
          refine v_goto (pc := 22) 26 dX5_agreeing_22 (by decide) ?_
          refine v_iadd (pc := 26) dX5_agreeing_26 ?_
          refine v_st (st' := [.int (nI (a + 1))]) (congrArg (fun z => Value.int z :: _) (nI_add a 1)) ?_
          refine v_istore_n (pc := 27) (lv' := [(1, .int (nI (a + 1))), (2, .int (nI i)), (0, .ref m0)]) dX5_agreeing_27 rfl (by decide) rfl ?_
          refine v_iinc (pc := 28) (v := nI (i + 1)) (lv' := [(2, .int (nI (i + 1))), (1, .int (nI (a + 1))), (0, .ref m0)]) 1 dX5_agreeing_28 rfl (nI_inc (i) 1) (by decide) rfl ?_
          refine v_goto (pc := 31) 4 dX5_agreeing_31 (by decide) ?_
          refine v_lv (lv' := [(2, .int (nI (i + 1))), (1, .int (nI (a + 1))), (0, .ref m0)]) [0, 1, 2] rfl ?_
          refine ih_4 (i + 1) (a + 1) (by omega) ?_ ?_
          · omega
          · simp only [cntM]; rw [← h_4_1, if_pos (by simpa [agM] using c_18)]
  refine v_lv (lv' := [(2, .int (nI 0)), (1, .int (nI 0)), (0, .ref m0)]) [0, 1, 2] rfl ?_
  refine loop_4 ((2 ^ nt - 0) + 1) 0 0 (Nat.lt_succ_self _) ?_ ?_
  · omega
  · rfl
theorem c_X5_days (l : Launch) (E : VE) (m0 : Nat) (ma : Nat) (mp : Nat) (mt : Nat) (mc : Nat) (ml : Nat) (mn : Nat) (mk : Nat) (mg : Nat) (mh : Nat) (mq : Nat) (nt : Nat) (pp : Nat) (rl : Nat) (tl : Nat) (se : Nat) (th : Int32) (rn : Int32) (ro : Int32) (to : Int32) (wt : Int32) (hn : Int32) (ho : Int32) (fa : Int32) (bk : Int32) (ba : Int32) (spt : Int32) (hre : Int32) (tok : Int32) (val : Int32) (tn : Int32) (f : Nat → Int32) (x : Int32) (h_rl : rl ≤ 8) (h_38 : f 38 = nI rl) (h_nt : nt ≤ 6) : Ct l E yX5_days cX5_days 8 (Option.some FieldType.int) 3 68 0 0 [.ref m0, .int (x)] [(m0, .inr (5, [.ref ma, .int (nI nt), .int (nI pp), .int (th), .ref mp, .int (rn), .int (ro), .int (to), .int (wt), .int (hn), .int (ho), .ref mt, .int (nI tl), .int (fa), .int (bk), .int (ba), .int (spt), .int (hre), .int (tok), .int (val), .ref mc, .ref ml, .ref mn, .int (nI se), .ref mk, .ref mg, .ref mh, .ref mq, .int (tn)])), (ma, .inl (E.2.1 1, 172, .inl (f)))] (Rt (some (.int (if ¬ x < 0 ∧ ¬ 4 < x then (if x = 0 then nI (dyK (agM rl th f) (nI (2 ^ nt - 1)) (2 ^ nt)).1 else if (dyK (agM rl th f) (nI (2 ^ nt - 1)) (2 ^ nt)).1 = 0 then -4 else if x = 1 then (dyK (agM rl th f) (nI (2 ^ nt - 1)) (2 ^ nt)).2.1 else if x = 2 then (dyK (agM rl th f) (nI (2 ^ nt - 1)) (2 ^ nt)).2.2.1 else if x = 3 then (dyK (agM rl th f) (nI (2 ^ nt - 1)) (2 ^ nt)).2.2.2.1 else (dyK (agM rl th f) (nI (2 ^ nt - 1)) (2 ^ nt)).2.2.2.2) else -1))) [(m0, .inr (5, [.ref ma, .int (nI nt), .int (nI pp), .int (th), .ref mp, .int (rn), .int (ro), .int (to), .int (wt), .int (hn), .int (ho), .ref mt, .int (nI tl), .int (fa), .int (bk), .int (ba), .int (spt), .int (hre), .int (tok), .int (val), .ref mc, .ref ml, .ref mn, .int (nI se), .ref mk, .ref mg, .ref mh, .ref mq, .int (tn)])), (ma, .inl (E.2.1 1, 172, .inl (f)))]) := by
  refine Ct.of (own := RX5) (nm := "days") (lv := [(0, .ref m0), (1, .int (x))]) (by decide) rfl rfl (Nat.le_of_ble_eq_true rfl) rfl ?_
  have h64 := p64 h_nt
  have h0p := p1 nt
  refine v_iload_n (pc := 0) 1 dX5_days_0 rfl rfl ?_
  refine v_i2l (pc := 1) dX5_days_1 ?_
  refine v_lconst (pc := 2) (v := 0) dX5_days_2 (by decide) ?_
  refine v_ldc2 (pc := 3) dX5_days_3 tb_957 ?_
  refine v_callS (pc := 6) (rest := []) [] lk_880 (c_X5_in l E (Int32.toInt64 (x)) 0 4) dX5_days_6 rfl rfl (Nat.le_of_ble_eq_true rfl) (by decide) (by decide) rfl (Rt.len rfl) (Rt.go ?_)
  refine v_w (ws' := [(m0, .inr (5, [.ref ma, .int (nI nt), .int (nI pp), .int (th), .ref mp, .int (rn), .int (ro), .int (to), .int (wt), .int (hn), .int (ho), .ref mt, .int (nI tl), .int (fa), .int (bk), .int (ba), .int (spt), .int (hre), .int (tok), .int (val), .ref mc, .ref ml, .ref mn, .int (nI se), .ref mk, .ref mg, .ref mh, .ref mq, .int (tn)])), (ma, .inl (E.2.1 1, 172, .inl (f)))]) rfl ?_
  refine v_st (st' := [.int (if ¬ (Int32.toInt64 (x)) < 0 ∧ ¬ 4 < (Int32.toInt64 (x)) then 1 else 0)]) rfl ?_
  refine v_st (st' := [.int (if ¬ x < 0 ∧ ¬ 4 < x then 1 else 0)]) (ite_st (inK (a := 0) (b := 4)) _) ?_
  refine v_ifB_ne (pc := 9) 14 dX5_days_9 (by decide) (fun c_9 => ?_) (fun c_9 => ?_)
  · skip
    refine v_iconst (pc := 14) (v := 0) dX5_days_14 (by decide) ?_
    refine v_istore_n (pc := 15) (lv' := [(2, .int (0)), (0, .ref m0), (1, .int (x))]) dX5_days_15 rfl (by decide) rfl ?_
    refine v_bipush (pc := 16) (v := -4) dX5_days_16 (by decide) ?_
    refine v_istore_n (pc := 18) (lv' := [(3, .int (-4)), (2, .int (0)), (0, .ref m0), (1, .int (x))]) dX5_days_18 rfl (by decide) rfl ?_
    refine v_bipush (pc := 19) (v := -4) dX5_days_19 (by decide) ?_
    refine v_istore (pc := 21) (lv' := [(4, .int (-4)), (3, .int (-4)), (2, .int (0)), (0, .ref m0), (1, .int (x))]) dX5_days_21 (by decide) rfl ?_
    refine v_aload_n (pc := 23) 3 dX5_days_23 rfl rfl ?_
    refine v_callV (pc := 24) (rest := []) [0] 0 lk_1024 (c_X5_sets l E m0 ma mp mt mc ml mn mk mg mh mq nt pp tl se th rn ro to wt hn ho fa bk ba spt hre tok val tn (by first | assumption | omega)) dX5_days_24 rfl rfl (Nat.le_of_ble_eq_true rfl) (by decide) rfl rfl rfl (by decide) rfl (Rt.len rfl) (Rt.go ?_)
    refine v_w (ws' := [(m0, .inr (5, [.ref ma, .int (nI nt), .int (nI pp), .int (th), .ref mp, .int (rn), .int (ro), .int (to), .int (wt), .int (hn), .int (ho), .ref mt, .int (nI tl), .int (fa), .int (bk), .int (ba), .int (spt), .int (hre), .int (tok), .int (val), .ref mc, .ref ml, .ref mn, .int (nI se), .ref mk, .ref mg, .ref mh, .ref mq, .int (tn)])), (ma, .inl (E.2.1 1, 172, .inl (f)))]) rfl ?_
    refine v_st (st' := [.int (nI (2 ^ nt))]) rfl ?_
    refine v_iconst (pc := 27) (v := 1) dX5_days_27 (by decide) ?_
    refine v_isub (pc := 28) dX5_days_28 ?_
    refine v_st (st' := [.int (nI (2 ^ nt - 1))]) (by rw [nI_m1 h0p]) ?_
    refine v_istore (pc := 29) (lv' := [(5, .int (nI (2 ^ nt - 1))), (4, .int (-4)), (3, .int (-4)), (2, .int (0)), (0, .ref m0), (1, .int (x))]) dX5_days_29 (by decide) rfl ?_
    refine v_aload_n (pc := 31) 4 dX5_days_31 rfl rfl ?_
    refine v_callV (pc := 32) (rest := []) [0] 0 lk_1024 (c_X5_sets l E m0 ma mp mt mc ml mn mk mg mh mq nt pp tl se th rn ro to wt hn ho fa bk ba spt hre tok val tn (by first | assumption | omega)) dX5_days_32 rfl rfl (Nat.le_of_ble_eq_true rfl) (by decide) rfl rfl rfl (by decide) rfl (Rt.len rfl) (Rt.go ?_)
    refine v_w (ws' := [(m0, .inr (5, [.ref ma, .int (nI nt), .int (nI pp), .int (th), .ref mp, .int (rn), .int (ro), .int (to), .int (wt), .int (hn), .int (ho), .ref mt, .int (nI tl), .int (fa), .int (bk), .int (ba), .int (spt), .int (hre), .int (tok), .int (val), .ref mc, .ref ml, .ref mn, .int (nI se), .ref mk, .ref mg, .ref mh, .ref mq, .int (tn)])), (ma, .inl (E.2.1 1, 172, .inl (f)))]) rfl ?_
    refine v_st (st' := [.int (nI (2 ^ nt))]) rfl ?_
    refine v_iconst (pc := 35) (v := 1) dX5_days_35 (by decide) ?_
    refine v_isub (pc := 36) dX5_days_36 ?_
    refine v_st (st' := [.int (nI (2 ^ nt - 1))]) (by rw [nI_m1 h0p]) ?_
    refine v_istore (pc := 37) (lv' := [(6, .int (nI (2 ^ nt - 1))), (5, .int (nI (2 ^ nt - 1))), (4, .int (-4)), (3, .int (-4)), (2, .int (0)), (0, .ref m0), (1, .int (x))]) dX5_days_37 (by decide) rfl ?_
    refine v_iconst (pc := 39) (v := 0) dX5_days_39 (by decide) ?_
    refine v_istore (pc := 40) (lv' := [(7, .int (0)), (6, .int (nI (2 ^ nt - 1))), (5, .int (nI (2 ^ nt - 1))), (4, .int (-4)), (3, .int (-4)), (2, .int (0)), (0, .ref m0), (1, .int (x))]) dX5_days_40 (by decide) rfl ?_
    have loop_42 : ∀ (D_42 : Nat) (i : Nat) (n : Nat) (le : Int32) (mo : Int32) (al : Int32) (no : Int32), 2 ^ nt - i < D_42 → (i ≤ 2 ^ nt) → (n ≤ i) → ((n, le, mo, al, no) = dyK (agM rl th f) (nI (2 ^ nt - 1)) i) → V l E RX5 cX5_days 8 (Option.some FieldType.int) "days" ({ frames := 3, cells := 0, slots := 0, locals := 68 }) [(m0, .inr (5, [.ref ma, .int (nI nt), .int (nI pp), .int (th), .ref mp, .int (rn), .int (ro), .int (to), .int (wt), .int (hn), .int (ho), .ref mt, .int (nI tl), .int (fa), .int (bk), .int (ba), .int (spt), .int (hre), .int (tok), .int (val), .ref mc, .ref ml, .ref mn, .int (nI se), .ref mk, .ref mg, .ref mh, .ref mq, .int (tn)])), (ma, .inl (E.2.1 1, 172, .inl (f)))] 0 0 (Rt (some (.int (if ¬ x < 0 ∧ ¬ 4 < x then (if x = 0 then nI (dyK (agM rl th f) (nI (2 ^ nt - 1)) (2 ^ nt)).1 else if (dyK (agM rl th f) (nI (2 ^ nt - 1)) (2 ^ nt)).1 = 0 then -4 else if x = 1 then (dyK (agM rl th f) (nI (2 ^ nt - 1)) (2 ^ nt)).2.1 else if x = 2 then (dyK (agM rl th f) (nI (2 ^ nt - 1)) (2 ^ nt)).2.2.1 else if x = 3 then (dyK (agM rl th f) (nI (2 ^ nt - 1)) (2 ^ nt)).2.2.2.1 else (dyK (agM rl th f) (nI (2 ^ nt - 1)) (2 ^ nt)).2.2.2.2) else -1))) [(m0, .inr (5, [.ref ma, .int (nI nt), .int (nI pp), .int (th), .ref mp, .int (rn), .int (ro), .int (to), .int (wt), .int (hn), .int (ho), .ref mt, .int (nI tl), .int (fa), .int (bk), .int (ba), .int (spt), .int (hre), .int (tok), .int (val), .ref mc, .ref ml, .ref mn, .int (nI se), .ref mk, .ref mg, .ref mh, .ref mq, .int (tn)])), (ma, .inl (E.2.1 1, 172, .inl (f)))]) 0 0 42 [(7, .int (nI i)), (2, .int (nI n)), (3, .int (le)), (4, .int (mo)), (5, .int (al)), (6, .int (no)), (0, .ref m0), (1, .int (x))] [] [(m0, .inr (5, [.ref ma, .int (nI nt), .int (nI pp), .int (th), .ref mp, .int (rn), .int (ro), .int (to), .int (wt), .int (hn), .int (ho), .ref mt, .int (nI tl), .int (fa), .int (bk), .int (ba), .int (spt), .int (hre), .int (tok), .int (val), .ref mc, .ref ml, .ref mn, .int (nI se), .ref mk, .ref mg, .ref mh, .ref mq, .int (tn)])), (ma, .inl (E.2.1 1, 172, .inl (f)))] := by
      intro D_42
      induction D_42 with
      | zero => intro i n le mo al no h; exact absurd h (Nat.not_lt_zero _)
      | succ D_42 ih_42 =>
        intro i n le mo al no hmu_42 h_42_0 h_42_1 h_42_2
        refine v_iload (pc := 42) 0 dX5_days_42 rfl ?_
        refine v_aload_n (pc := 44) 6 dX5_days_44 rfl rfl ?_
        refine v_callV (pc := 45) (rest := [.int (nI i)]) [0] 0 lk_1024 (c_X5_sets l E m0 ma mp mt mc ml mn mk mg mh mq nt pp tl se th rn ro to wt hn ho fa bk ba spt hre tok val tn (by first | assumption | omega)) dX5_days_45 rfl rfl (Nat.le_of_ble_eq_true rfl) (by decide) rfl rfl rfl (by decide) rfl (Rt.len rfl) (Rt.go ?_)
        refine v_w (ws' := [(m0, .inr (5, [.ref ma, .int (nI nt), .int (nI pp), .int (th), .ref mp, .int (rn), .int (ro), .int (to), .int (wt), .int (hn), .int (ho), .ref mt, .int (nI tl), .int (fa), .int (bk), .int (ba), .int (spt), .int (hre), .int (tok), .int (val), .ref mc, .ref ml, .ref mn, .int (nI se), .ref mk, .ref mg, .ref mh, .ref mq, .int (tn)])), (ma, .inl (E.2.1 1, 172, .inl (f)))]) rfl ?_
        refine v_st (st' := [.int (nI (2 ^ nt)), .int (nI i)]) rfl ?_
        refine v_cmpN_ge (pc := 48) (a := i) (b := 2 ^ nt) 100 dX5_days_48 (by decide) (by omega) (by omega) (fun c_48 => ?_) (fun c_48 => ?_)
        · skip
          refine v_iload_n (pc := 100) 7 dX5_days_100 rfl rfl ?_
          refine v_if_eq (pc := 101) 108 dX5_days_101 (by decide) (fun c_101 => ?_) (fun c_101 => ?_)
          · skip
            refine v_iload_n (pc := 108) 7 dX5_days_108 rfl rfl ?_
            refine v_if_ne (pc := 109) 116 dX5_days_109 (by decide) (fun c_109 => ?_) (fun c_109 => ?_)
            · skip
              refine v_bipush (pc := 116) (v := -4) dX5_days_116 (by decide) ?_
              refine v_iret (pc := 118) dX5_days_118 rfl ⟨rfl, rfl⟩ (Rt.i ?_)
              exact absurd c_101 c_109
            · skip
              refine v_iload_n (pc := 112) 1 dX5_days_112 rfl rfl ?_
              refine v_goto (pc := 113) 118 dX5_days_113 (by decide) ?_
              refine v_iret (pc := 118) dX5_days_118 rfl ⟨rfl, rfl⟩ (Rt.i ?_)
              obtain rfl : i = 2 ^ nt := by omega
              rw [if_pos c_9, ← h_42_2, if_pos c_109]
          · skip
            refine v_iload_n (pc := 104) 1 dX5_days_104 rfl rfl ?_
            refine v_ifN_ne (pc := 105) (a := n) 119 dX5_days_105 (by decide) (by omega) (fun c_105 => ?_) (fun c_105 => ?_)
            · skip
              refine v_iload_n (pc := 119) 7 dX5_days_119 rfl rfl ?_
              refine v_iconst (pc := 120) (v := 1) dX5_days_120 (by decide) ?_
              refine v_icmp_ne (pc := 121) 128 dX5_days_121 (by decide) (fun c_121 => ?_) (fun c_121 => ?_)
              · skip
                refine v_iload_n (pc := 128) 7 dX5_days_128 rfl rfl ?_
                refine v_iconst (pc := 129) (v := 2) dX5_days_129 (by decide) ?_
                refine v_icmp_ne (pc := 130) 138 dX5_days_130 (by decide) (fun c_130 => ?_) (fun c_130 => ?_)
                · skip
                  refine v_iload_n (pc := 138) 7 dX5_days_138 rfl rfl ?_
                  refine v_iconst (pc := 139) (v := 3) dX5_days_139 (by decide) ?_
                  refine v_icmp_ne (pc := 140) 148 dX5_days_140 (by decide) (fun c_140 => ?_) (fun c_140 => ?_)
                  · skip
                    refine v_iload (pc := 148) 5 dX5_days_148 rfl ?_
                    refine v_iret (pc := 150) dX5_days_150 rfl ⟨rfl, rfl⟩ (Rt.i ?_)
                    obtain rfl : i = 2 ^ nt := by omega
                    rw [if_pos c_9, ← h_42_2, if_neg c_101, if_neg c_105, if_neg c_121, if_neg c_130, if_neg c_140]
                  · skip
                    refine v_iload (pc := 143) 4 dX5_days_143 rfl ?_
                    refine v_goto (pc := 145) 150 dX5_days_145 (by decide) ?_
                    refine v_iret (pc := 150) dX5_days_150 rfl ⟨rfl, rfl⟩ (Rt.i ?_)
                    obtain rfl : i = 2 ^ nt := by omega
                    rw [if_pos c_9, ← h_42_2, if_neg c_101, if_neg c_105, if_neg c_121, if_neg c_130, if_pos c_140]
                · skip
                  refine v_iload (pc := 133) 3 dX5_days_133 rfl ?_
                  refine v_goto (pc := 135) 150 dX5_days_135 (by decide) ?_
                  refine v_iret (pc := 150) dX5_days_150 rfl ⟨rfl, rfl⟩ (Rt.i ?_)
                  obtain rfl : i = 2 ^ nt := by omega
                  rw [if_pos c_9, ← h_42_2, if_neg c_101, if_neg c_105, if_neg c_121, if_pos c_130]
              · skip
                refine v_iload_n (pc := 124) 2 dX5_days_124 rfl rfl ?_
                refine v_goto (pc := 125) 150 dX5_days_125 (by decide) ?_
                refine v_iret (pc := 150) dX5_days_150 rfl ⟨rfl, rfl⟩ (Rt.i ?_)
                obtain rfl : i = 2 ^ nt := by omega
                rw [if_pos c_9, ← h_42_2, if_neg c_101, if_neg c_105, if_pos c_121]
            · skip
              refine v_iload_n (pc := 108) 7 dX5_days_108 rfl rfl ?_
              refine v_if_ne (pc := 109) 116 dX5_days_109 (by decide) (fun c_109 => ?_) (fun c_109 => ?_)
              · skip
                refine v_bipush (pc := 116) (v := -4) dX5_days_116 (by decide) ?_
                refine v_iret (pc := 118) dX5_days_118 rfl ⟨rfl, rfl⟩ (Rt.i ?_)
                obtain rfl : i = 2 ^ nt := by omega
                rw [if_pos c_9, ← h_42_2, if_neg c_109, if_pos c_105]
              · skip
                refine v_iload_n (pc := 112) 1 dX5_days_112 rfl rfl ?_
                refine v_goto (pc := 113) 118 dX5_days_113 (by decide) ?_
                refine v_iret (pc := 118) dX5_days_118 rfl ⟨rfl, rfl⟩ (Rt.i ?_)
                exact absurd c_109 c_101
        · skip
          refine v_aload_n (pc := 51) 6 dX5_days_51 rfl rfl ?_
          refine v_iload (pc := 52) 0 dX5_days_52 rfl ?_
          refine v_callV (pc := 54) (rest := []) [0, 1] 0 lk_1057 (c_X5_agrees l E m0 ma mp mt mc ml mn mk mg mh mq nt pp rl tl se th rn ro to wt hn ho fa bk ba spt hre tok val tn f (nI i) (by first | assumption | omega) (by first | assumption | omega)) dX5_days_54 rfl rfl (Nat.le_of_ble_eq_true rfl) (by decide) rfl rfl rfl (by decide) rfl (Rt.len rfl) (Rt.go ?_)
          refine v_w (ws' := [(m0, .inr (5, [.ref ma, .int (nI nt), .int (nI pp), .int (th), .ref mp, .int (rn), .int (ro), .int (to), .int (wt), .int (hn), .int (ho), .ref mt, .int (nI tl), .int (fa), .int (bk), .int (ba), .int (spt), .int (hre), .int (tok), .int (val), .ref mc, .ref ml, .ref mn, .int (nI se), .ref mk, .ref mg, .ref mh, .ref mq, .int (tn)])), (ma, .inl (E.2.1 1, 172, .inl (f)))]) rfl ?_
          refine v_st (st' := [.int (if outM rl th f (nI i) = (nI i) then 1 else 0)]) rfl ?_
          refine v_ifB_eq (pc := 57) 94 dX5_days_57 (by decide) (fun c_57 => ?_) (fun c_57 => ?_)
          · skip
            refine v_iinc (pc := 94) (v := nI (i + 1)) (lv' := [(7, .int (nI (i + 1))), (2, .int (nI n)), (3, .int (le)), (4, .int (mo)), (5, .int (al)), (6, .int (no)), (0, .ref m0), (1, .int (x))]) 0 dX5_days_94 rfl (nI_inc (i) 1) (by decide) rfl ?_
            refine v_goto (pc := 97) 42 dX5_days_97 (by decide) ?_
            refine v_lv (lv' := [(7, .int (nI (i + 1))), (2, .int (nI n)), (3, .int (le)), (4, .int (mo)), (5, .int (al)), (6, .int (no)), (0, .ref m0), (1, .int (x))]) [0, 1, 2, 3, 4, 5, 6, 7] rfl ?_
            refine ih_42 (i + 1) n le mo al no (by omega) ?_ ?_ ?_
            · omega
            · omega
            · simp only [dyK]; rw [← h_42_2, if_neg (show ¬ agM rl th f i = true by simpa [agM] using c_57)]
          · skip
            refine v_iload_n (pc := 60) 1 dX5_days_60 rfl rfl ?_
            suffices J_61 : V l E RX5 cX5_days 8 (Option.some FieldType.int) "days" ({ frames := 3, cells := 0, slots := 0, locals := 68 }) [(m0, .inr (5, [.ref ma, .int (nI nt), .int (nI pp), .int (th), .ref mp, .int (rn), .int (ro), .int (to), .int (wt), .int (hn), .int (ho), .ref mt, .int (nI tl), .int (fa), .int (bk), .int (ba), .int (spt), .int (hre), .int (tok), .int (val), .ref mc, .ref ml, .ref mn, .int (nI se), .ref mk, .ref mg, .ref mh, .ref mq, .int (tn)])), (ma, .inl (E.2.1 1, 172, .inl (f)))] 0 0 (Rt (some (.int (if ¬ x < 0 ∧ ¬ 4 < x then (if x = 0 then nI (dyK (agM rl th f) (nI (2 ^ nt - 1)) (2 ^ nt)).1 else if (dyK (agM rl th f) (nI (2 ^ nt - 1)) (2 ^ nt)).1 = 0 then -4 else if x = 1 then (dyK (agM rl th f) (nI (2 ^ nt - 1)) (2 ^ nt)).2.1 else if x = 2 then (dyK (agM rl th f) (nI (2 ^ nt - 1)) (2 ^ nt)).2.2.1 else if x = 3 then (dyK (agM rl th f) (nI (2 ^ nt - 1)) (2 ^ nt)).2.2.2.1 else (dyK (agM rl th f) (nI (2 ^ nt - 1)) (2 ^ nt)).2.2.2.2) else -1))) [(m0, .inr (5, [.ref ma, .int (nI nt), .int (nI pp), .int (th), .ref mp, .int (rn), .int (ro), .int (to), .int (wt), .int (hn), .int (ho), .ref mt, .int (nI tl), .int (fa), .int (bk), .int (ba), .int (spt), .int (hre), .int (tok), .int (val), .ref mc, .ref ml, .ref mn, .int (nI se), .ref mk, .ref mg, .ref mh, .ref mq, .int (tn)])), (ma, .inl (E.2.1 1, 172, .inl (f)))]) 0 0 70 [(7, .int (nI i)), (2, .int (nI n)), (3, .int (le)), (4, .int (mo)), (5, .int (al)), (6, .int (no)), (0, .ref m0), (1, .int (x))] [.int (if ¬ n = 0 then le else nI i)] [(m0, .inr (5, [.ref ma, .int (nI nt), .int (nI pp), .int (th), .ref mp, .int (rn), .int (ro), .int (to), .int (wt), .int (hn), .int (ho), .ref mt, .int (nI tl), .int (fa), .int (bk), .int (ba), .int (spt), .int (hre), .int (tok), .int (val), .ref mc, .ref ml, .ref mn, .int (nI se), .ref mk, .ref mg, .ref mh, .ref mq, .int (tn)])), (ma, .inl (E.2.1 1, 172, .inl (f)))] by
              refine v_ifN_ne (pc := 61) (a := n) 69 dX5_days_61 (by decide) (by omega) (fun c_61 => ?_) (fun c_61 => ?_)
              · skip
                refine v_iload_n (pc := 69) 2 dX5_days_69 rfl rfl ?_
                refine v_st ?_ J_61
                rw [if_pos (show ¬ n = 0 from c_61)]
              · skip
                refine v_iload (pc := 64) 0 dX5_days_64 rfl ?_
                refine v_goto (pc := 66) 70 dX5_days_66 (by decide) ?_
                refine v_st ?_ J_61
                rw [if_neg (show ¬ (¬ n = 0) from (by first | exact c_61 | omega | exact fun q => q c_61))]
            refine v_istore_n (pc := 70) (lv' := [(3, .int (if ¬ n = 0 then le else nI i)), (7, .int (nI i)), (2, .int (nI n)), (4, .int (mo)), (5, .int (al)), (6, .int (no)), (0, .ref m0), (1, .int (x))]) dX5_days_70 rfl (by decide) rfl ?_
            refine v_iload (pc := 71) 1 dX5_days_71 rfl ?_
            refine v_istore (pc := 73) (lv' := [(4, .int (nI i)), (3, .int (if ¬ n = 0 then le else nI i)), (7, .int (nI i)), (2, .int (nI n)), (5, .int (al)), (6, .int (no)), (0, .ref m0), (1, .int (x))]) dX5_days_73 (by decide) rfl ?_
            refine v_iload (pc := 75) 4 dX5_days_75 rfl ?_
            refine v_iload (pc := 77) 2 dX5_days_77 rfl ?_
            refine v_iand (pc := 79) dX5_days_79 ?_
            refine v_istore (pc := 80) (lv' := [(5, .int ((al) &&& (nI i))), (4, .int (nI i)), (3, .int (if ¬ n = 0 then le else nI i)), (7, .int (nI i)), (2, .int (nI n)), (6, .int (no)), (0, .ref m0), (1, .int (x))]) dX5_days_80 (by decide) rfl ?_
            refine v_iload (pc := 82) 5 dX5_days_82 rfl ?_
            refine v_iload (pc := 84) 3 dX5_days_84 rfl ?_
            refine v_iconst (pc := 86) (v := -1) dX5_days_86 (by decide) ?_
            refine v_ixor (pc := 87) dX5_days_87 ?_
            refine v_iand (pc := 88) dX5_days_88 ?_
            refine v_istore (pc := 89) (lv' := [(6, .int ((no) &&& ((nI i) ^^^ (-1)))), (5, .int ((al) &&& (nI i))), (4, .int (nI i)), (3, .int (if ¬ n = 0 then le else nI i)), (7, .int (nI i)), (2, .int (nI n)), (0, .ref m0), (1, .int (x))]) dX5_days_89 (by decide) rfl ?_
            refine v_iinc (pc := 91) (v := nI (n + 1)) (lv' := [(2, .int (nI (n + 1))), (6, .int ((no) &&& ((nI i) ^^^ (-1)))), (5, .int ((al) &&& (nI i))), (4, .int (nI i)), (3, .int (if ¬ n = 0 then le else nI i)), (7, .int (nI i)), (0, .ref m0), (1, .int (x))]) 5 dX5_days_91 rfl (nI_inc (n) 1) (by decide) rfl ?_
            refine v_iinc (pc := 94) (v := nI (i + 1)) (lv' := [(7, .int (nI (i + 1))), (2, .int (nI (n + 1))), (6, .int ((no) &&& ((nI i) ^^^ (-1)))), (5, .int ((al) &&& (nI i))), (4, .int (nI i)), (3, .int (if ¬ n = 0 then le else nI i)), (0, .ref m0), (1, .int (x))]) 5 dX5_days_94 rfl (nI_inc (i) 1) (by decide) rfl ?_
            refine v_goto (pc := 97) 42 dX5_days_97 (by decide) ?_
            refine v_lv (lv' := [(7, .int (nI (i + 1))), (2, .int (nI (n + 1))), (3, .int (if ¬ n = 0 then le else nI i)), (4, .int (nI i)), (5, .int ((al) &&& (nI i))), (6, .int ((no) &&& ((nI i) ^^^ (-1)))), (0, .ref m0), (1, .int (x))]) [0, 1, 5, 4, 3, 2, 6, 7] rfl ?_
            refine ih_42 (i + 1) (n + 1) (if ¬ n = 0 then le else nI i) (nI i) ((al) &&& (nI i)) ((no) &&& ((nI i) ^^^ (-1))) (by omega) ?_ ?_ ?_
            · omega
            · omega
            · simp only [dyK]; rw [← h_42_2, if_pos (show agM rl th f i = true by simpa [agM] using c_57)]; by_cases q : n = 0 <;> simp [q]
    refine v_lv (lv' := [(7, .int (nI 0)), (2, .int (nI 0)), (3, .int (-4)), (4, .int (-4)), (5, .int (nI (2 ^ nt - 1))), (6, .int (nI (2 ^ nt - 1))), (0, .ref m0), (1, .int (x))]) [0, 5, 4, 3, 2, 1, 6, 7] rfl ?_
    refine loop_42 ((2 ^ nt - 0) + 1) 0 0 (-4) (-4) (nI (2 ^ nt - 1)) (nI (2 ^ nt - 1)) (Nat.lt_succ_self _) ?_ ?_ ?_
    · omega
    · omega
    · rfl
  · skip
    refine v_iconst (pc := 12) (v := -1) dX5_days_12 (by decide) ?_
    refine v_iret (pc := 13) dX5_days_13 rfl ⟨rfl, rfl⟩ (Rt.i ?_)
    rw [if_neg c_9]
theorem c_X5_canBy (l : Launch) (E : VE) (m0 : Nat) (ma : Nat) (mp : Nat) (mt : Nat) (mc : Nat) (ml : Nat) (mn : Nat) (mk : Nat) (mg : Nat) (mh : Nat) (mq : Nat) (nt : Nat) (pp : Nat) (rl : Nat) (tl : Nat) (se : Nat) (th : Int32) (rn : Int32) (ro : Int32) (to : Int32) (wt : Int32) (hn : Int32) (ho : Int32) (fa : Int32) (bk : Int32) (ba : Int32) (spt : Int32) (hre : Int32) (tok : Int32) (val : Int32) (tn : Int32) (f : Nat → Int32) (k : Nat) (h_rl : rl ≤ 8) (h_38 : f 38 = nI rl) (h_nt : nt ≤ 6) (h_k : k ≤ 8) : Ct l E yX5_canBy cX5_canBy 3 (Option.some FieldType.boolean) 4 90 0 0 [.ref m0, .int (nI k)] [(m0, .inr (5, [.ref ma, .int (nI nt), .int (nI pp), .int (th), .ref mp, .int (rn), .int (ro), .int (to), .int (wt), .int (hn), .int (ho), .ref mt, .int (nI tl), .int (fa), .int (bk), .int (ba), .int (spt), .int (hre), .int (tok), .int (val), .ref mc, .ref ml, .ref mn, .int (nI se), .ref mk, .ref mg, .ref mh, .ref mq, .int (tn)])), (ma, .inl (E.2.1 1, 172, .inl (f)))] (Rt (some (.int (if 0 < cntM (agM rl (nI (2 ^ k - 1)) f) (2 ^ nt) then 1 else 0))) [(m0, .inr (5, [.ref ma, .int (nI nt), .int (nI pp), .int (255), .ref mp, .int (rn), .int (ro), .int (to), .int (wt), .int (hn), .int (ho), .ref mt, .int (nI tl), .int (fa), .int (bk), .int (ba), .int (spt), .int (hre), .int (tok), .int (val), .ref mc, .ref ml, .ref mn, .int (nI se), .ref mk, .ref mg, .ref mh, .ref mq, .int (tn)])), (ma, .inl (E.2.1 1, 172, .inl (f)))]) := by
  refine Ct.of (own := RX5) (nm := "canBy") (lv := [(0, .ref m0), (1, .int (nI k))]) (by decide) rfl rfl (Nat.le_of_ble_eq_true rfl) rfl ?_
  refine v_aload_n (pc := 0) 0 dX5_canBy_0 rfl rfl ?_
  refine v_iconst (pc := 1) (v := 1) dX5_canBy_1 (by decide) ?_
  refine v_iload_n (pc := 2) 1 dX5_canBy_2 rfl rfl ?_
  refine v_ishl (pc := 3) dX5_canBy_3 ?_
  refine v_iconst (pc := 4) (v := 1) dX5_canBy_4 (by decide) ?_
  refine v_isub (pc := 5) dX5_canBy_5 ?_
  refine v_st (st' := [.int (nI (2 ^ k - 1)), .ref m0]) (by rw [pwm (by omega)]) ?_
  refine pf_790 (pc := 6) (ws' := [(m0, .inr (5, [.ref ma, .int (nI nt), .int (nI pp), .int (nI (2 ^ k - 1)), .ref mp, .int (rn), .int (ro), .int (to), .int (wt), .int (hn), .int (ho), .ref mt, .int (nI tl), .int (fa), .int (bk), .int (ba), .int (spt), .int (hre), .int (tok), .int (val), .ref mc, .ref ml, .ref mn, .int (nI se), .ref mk, .ref mg, .ref mh, .ref mq, .int (tn)])), (ma, .inl (E.2.1 1, 172, .inl (f)))]) 0 dX5_canBy_6 rfl rfl rfl (Nat.le_of_ble_eq_true rfl) rfl ?_
  refine v_aload_n (pc := 9) 0 dX5_canBy_9 rfl rfl ?_
  refine v_callV (pc := 10) (rest := []) [0, 1] 0 lk_1069 (c_X5_agreeing l E m0 ma mp mt mc ml mn mk mg mh mq nt pp rl tl se (nI (2 ^ k - 1)) rn ro to wt hn ho fa bk ba spt hre tok val tn f (by first | assumption | omega) (by first | assumption | omega) (by first | assumption | omega)) dX5_canBy_10 rfl rfl (Nat.le_of_ble_eq_true rfl) (by decide) rfl rfl rfl (by decide) rfl (Rt.len rfl) (Rt.go ?_)
  refine v_w (ws' := [(m0, .inr (5, [.ref ma, .int (nI nt), .int (nI pp), .int ((nI (2 ^ k - 1))), .ref mp, .int (rn), .int (ro), .int (to), .int (wt), .int (hn), .int (ho), .ref mt, .int (nI tl), .int (fa), .int (bk), .int (ba), .int (spt), .int (hre), .int (tok), .int (val), .ref mc, .ref ml, .ref mn, .int (nI se), .ref mk, .ref mg, .ref mh, .ref mq, .int (tn)])), (ma, .inl (E.2.1 1, 172, .inl (f)))]) rfl ?_
  refine v_st (st' := [.int (nI (cntM (agM rl (nI (2 ^ k - 1)) f) (2 ^ nt)))]) rfl ?_
  refine v_ifN_le (pc := 13) (a := cntM (agM rl (nI (2 ^ k - 1)) f) (2 ^ nt)) 20 dX5_canBy_13 (by decide) (by have := p64 h_nt; have := cntM_le (agM rl (nI (2 ^ k - 1)) f) (2 ^ nt); omega) (fun c_13 => ?_) (fun c_13 => ?_)
  · skip
    refine v_iconst (pc := 20) (v := 0) dX5_canBy_20 (by decide) ?_
    refine v_istore_n (pc := 21) (lv' := [(2, .int (0)), (0, .ref m0), (1, .int (nI k))]) dX5_canBy_21 rfl (by decide) rfl ?_
    refine v_aload_n (pc := 22) 1 dX5_canBy_22 rfl rfl ?_
    refine v_sipush (pc := 23) (v := 255) dX5_canBy_23 (by decide) ?_
    refine pf_790 (pc := 26) (ws' := [(m0, .inr (5, [.ref ma, .int (nI nt), .int (nI pp), .int (255), .ref mp, .int (rn), .int (ro), .int (to), .int (wt), .int (hn), .int (ho), .ref mt, .int (nI tl), .int (fa), .int (bk), .int (ba), .int (spt), .int (hre), .int (tok), .int (val), .ref mc, .ref ml, .ref mn, .int (nI se), .ref mk, .ref mg, .ref mh, .ref mq, .int (tn)])), (ma, .inl (E.2.1 1, 172, .inl (f)))]) 0 dX5_canBy_26 rfl rfl rfl (Nat.le_of_ble_eq_true rfl) rfl ?_
    refine v_iload_n (pc := 29) 0 dX5_canBy_29 rfl rfl ?_
    refine v_zret (pc := 30) dX5_canBy_30 rfl rfl ⟨rfl, rfl⟩ (Rt.i2 ?_ ?_)
    · skip
      exact (if_neg (by omega)).symm
    · skip
      rfl
  · skip
    refine v_iconst (pc := 16) (v := 1) dX5_canBy_16 (by decide) ?_
    refine v_goto (pc := 17) 21 dX5_canBy_17 (by decide) ?_
    refine v_istore_n (pc := 21) (lv' := [(2, .int (1)), (0, .ref m0), (1, .int (nI k))]) dX5_canBy_21 rfl (by decide) rfl ?_
    refine v_aload_n (pc := 22) 1 dX5_canBy_22 rfl rfl ?_
    refine v_sipush (pc := 23) (v := 255) dX5_canBy_23 (by decide) ?_
    refine pf_790 (pc := 26) (ws' := [(m0, .inr (5, [.ref ma, .int (nI nt), .int (nI pp), .int (255), .ref mp, .int (rn), .int (ro), .int (to), .int (wt), .int (hn), .int (ho), .ref mt, .int (nI tl), .int (fa), .int (bk), .int (ba), .int (spt), .int (hre), .int (tok), .int (val), .ref mc, .ref ml, .ref mn, .int (nI se), .ref mk, .ref mg, .ref mh, .ref mq, .int (tn)])), (ma, .inl (E.2.1 1, 172, .inl (f)))]) 0 dX5_canBy_26 rfl rfl rfl (Nat.le_of_ble_eq_true rfl) rfl ?_
    refine v_iload_n (pc := 29) 0 dX5_canBy_29 rfl rfl ?_
    refine v_zret (pc := 30) dX5_canBy_30 rfl rfl ⟨rfl, rfl⟩ (Rt.i2 ?_ ?_)
    · skip
      exact (if_pos c_13).symm
    · skip
      rfl
theorem c_X5_first (l : Launch) (E : VE) (m0 : Nat) (ma : Nat) (mp : Nat) (mt : Nat) (mc : Nat) (ml : Nat) (mn : Nat) (mk : Nat) (mg : Nat) (mh : Nat) (mq : Nat) (nt : Nat) (pp : Nat) (rl : Nat) (tl : Nat) (se : Nat) (rn : Int32) (ro : Int32) (to : Int32) (wt : Int32) (hn : Int32) (ho : Int32) (fa : Int32) (bk : Int32) (ba : Int32) (spt : Int32) (hre : Int32) (tok : Int32) (val : Int32) (tn : Int32) (f : Nat → Int32) (h_rl : rl ≤ 8) (h_38 : f 38 = nI rl) (h_nt : nt ≤ 6) : Ct l E yX5_first cX5_first 2 (Option.some FieldType.int) 5 112 0 0 [.ref m0] [(m0, .inr (5, [.ref ma, .int (nI nt), .int (nI pp), .int (255), .ref mp, .int (rn), .int (ro), .int (to), .int (wt), .int (hn), .int (ho), .ref mt, .int (nI tl), .int (fa), .int (bk), .int (ba), .int (spt), .int (hre), .int (tok), .int (val), .ref mc, .ref ml, .ref mn, .int (nI se), .ref mk, .ref mg, .ref mh, .ref mq, .int (tn)])), (ma, .inl (E.2.1 1, 172, .inl (f)))] (Rt (some (.int (lstF (fun k => decide (¬ 0 < cntM (agM rl (nI (2 ^ k - 1)) f) (2 ^ nt))) (rl + 1) 0))) [(m0, .inr (5, [.ref ma, .int (nI nt), .int (nI pp), .int (255), .ref mp, .int (rn), .int (ro), .int (to), .int (wt), .int (hn), .int (ho), .ref mt, .int (nI tl), .int (fa), .int (bk), .int (ba), .int (spt), .int (hre), .int (tok), .int (val), .ref mc, .ref ml, .ref mn, .int (nI se), .ref mk, .ref mg, .ref mh, .ref mq, .int (tn)])), (ma, .inl (E.2.1 1, 172, .inl (f)))]) := by
  refine Ct.of (own := RX5) (nm := "first") (lv := [(0, .ref m0)]) (by decide) rfl rfl (Nat.le_of_ble_eq_true rfl) rfl ?_
  refine v_iconst (pc := 0) (v := 0) dX5_first_0 (by decide) ?_
  refine v_istore_n (pc := 1) (lv' := [(1, .int (0)), (0, .ref m0)]) dX5_first_1 rfl (by decide) rfl ?_
  have loop_2 : ∀ (D_2 : Nat) (i : Nat), rl + 1 - i < D_2 → (i ≤ rl + 1) → (lstF (fun k => decide (¬ 0 < cntM (agM rl (nI (2 ^ k - 1)) f) (2 ^ nt))) (rl + 1) 0 = lstF (fun k => decide (¬ 0 < cntM (agM rl (nI (2 ^ k - 1)) f) (2 ^ nt))) (rl + 1 - i) i) → V l E RX5 cX5_first 2 (Option.some FieldType.int) "first" ({ frames := 5, cells := 0, slots := 0, locals := 112 }) [(m0, .inr (5, [.ref ma, .int (nI nt), .int (nI pp), .int (255), .ref mp, .int (rn), .int (ro), .int (to), .int (wt), .int (hn), .int (ho), .ref mt, .int (nI tl), .int (fa), .int (bk), .int (ba), .int (spt), .int (hre), .int (tok), .int (val), .ref mc, .ref ml, .ref mn, .int (nI se), .ref mk, .ref mg, .ref mh, .ref mq, .int (tn)])), (ma, .inl (E.2.1 1, 172, .inl (f)))] 0 0 (Rt (some (.int (lstF (fun k => decide (¬ 0 < cntM (agM rl (nI (2 ^ k - 1)) f) (2 ^ nt))) (rl + 1) 0))) [(m0, .inr (5, [.ref ma, .int (nI nt), .int (nI pp), .int (255), .ref mp, .int (rn), .int (ro), .int (to), .int (wt), .int (hn), .int (ho), .ref mt, .int (nI tl), .int (fa), .int (bk), .int (ba), .int (spt), .int (hre), .int (tok), .int (val), .ref mc, .ref ml, .ref mn, .int (nI se), .ref mk, .ref mg, .ref mh, .ref mq, .int (tn)])), (ma, .inl (E.2.1 1, 172, .inl (f)))]) 0 0 2 [(1, .int (nI i)), (0, .ref m0)] [] [(m0, .inr (5, [.ref ma, .int (nI nt), .int (nI pp), .int (255), .ref mp, .int (rn), .int (ro), .int (to), .int (wt), .int (hn), .int (ho), .ref mt, .int (nI tl), .int (fa), .int (bk), .int (ba), .int (spt), .int (hre), .int (tok), .int (val), .ref mc, .ref ml, .ref mn, .int (nI se), .ref mk, .ref mg, .ref mh, .ref mq, .int (tn)])), (ma, .inl (E.2.1 1, 172, .inl (f)))] := by
    intro D_2
    induction D_2 with
    | zero => intro i h; exact absurd h (Nat.not_lt_zero _)
    | succ D_2 ih_2 =>
      intro i hmu_2 h_2_0 h_2_1
      refine v_iload_n (pc := 2) 0 dX5_first_2 rfl rfl ?_
      refine v_aload_n (pc := 3) 1 dX5_first_3 rfl rfl ?_
      refine gf_787 (pc := 4) 0 dX5_first_4 rfl rfl ?_
      refine v_bipush (pc := 7) (v := 38) dX5_first_7 (by decide) ?_
      refine v_ialdN (pc := 9) 1 1 (38) dX5_first_9 rfl rfl rfl (by decide) (by decide) ?_
      refine v_st (st' := [.int (nI rl), .int (nI i)]) (by rw [h_38]) ?_
      refine v_cmpN_gt (pc := 10) (a := i) (b := rl) 29 dX5_first_10 (by decide) (by omega) (by omega) (fun c_10 => ?_) (fun c_10 => ?_)
      · skip
        refine v_bipush (pc := 29) (v := -4) dX5_first_29 (by decide) ?_
        refine v_iret (pc := 31) dX5_first_31 rfl ⟨rfl, rfl⟩ (Rt.i ?_)
        rw [h_2_1, show rl + 1 - i = 0 by omega]; rfl
      · skip
        refine v_aload_n (pc := 13) 1 dX5_first_13 rfl rfl ?_
        refine v_iload_n (pc := 14) 0 dX5_first_14 rfl rfl ?_
        refine v_callV (pc := 15) (rest := []) [0, 1] 0 lk_1065 (c_X5_canBy l E m0 ma mp mt mc ml mn mk mg mh mq nt pp rl tl se 255 rn ro to wt hn ho fa bk ba spt hre tok val tn f i (by first | assumption | omega) (by first | assumption | omega) (by first | assumption | omega) (by first | assumption | omega)) dX5_first_15 rfl rfl (Nat.le_of_ble_eq_true rfl) (by decide) rfl rfl rfl (by decide) rfl (Rt.len rfl) (Rt.go ?_)
        refine v_w (ws' := [(m0, .inr (5, [.ref ma, .int (nI nt), .int (nI pp), .int (255), .ref mp, .int (rn), .int (ro), .int (to), .int (wt), .int (hn), .int (ho), .ref mt, .int (nI tl), .int (fa), .int (bk), .int (ba), .int (spt), .int (hre), .int (tok), .int (val), .ref mc, .ref ml, .ref mn, .int (nI se), .ref mk, .ref mg, .ref mh, .ref mq, .int (tn)])), (ma, .inl (E.2.1 1, 172, .inl (f)))]) rfl ?_
        refine v_st (st' := [.int (if 0 < cntM (agM rl (nI (2 ^ i - 1)) f) (2 ^ nt) then 1 else 0)]) rfl ?_
        refine v_ifB_ne (pc := 18) 23 dX5_first_18 (by decide) (fun c_18 => ?_) (fun c_18 => ?_)
        · skip
          refine v_iinc (pc := 23) (v := nI (i + 1)) (lv' := [(1, .int (nI (i + 1))), (0, .ref m0)]) 0 dX5_first_23 rfl (nI_inc (i) 1) (by decide) rfl ?_
          refine v_goto (pc := 26) 2 dX5_first_26 (by decide) ?_
          refine v_lv (lv' := [(1, .int (nI (i + 1))), (0, .ref m0)]) [0, 1] rfl ?_
          refine ih_2 (i + 1) (by omega) ?_ ?_
          · omega
          · rw [h_2_1, show rl + 1 - i = (rl + 1 - (i + 1)) + 1 by omega, lstF, if_neg (by rw [decide_eq_true_eq]; exact fun q => q c_18)]
        · skip
          refine v_iload_n (pc := 21) 0 dX5_first_21 rfl rfl ?_
          refine v_iret (pc := 22) dX5_first_22 rfl ⟨rfl, rfl⟩ (Rt.i ?_)
          rw [h_2_1, show rl + 1 - i = (rl + 1 - (i + 1)) + 1 by omega, lstF, if_pos (by rw [decide_eq_true_eq]; exact c_18)]
  refine v_lv (lv' := [(1, .int (nI 0)), (0, .ref m0)]) [0, 1] rfl ?_
  refine loop_2 ((rl + 1 - 0) + 1) 0 (Nat.lt_succ_self _) ?_ ?_
  · omega
  · rfl
theorem c_X5_less (l : Launch) (E : VE) (m0 : Nat) (ma : Nat) (mp : Nat) (mt : Nat) (mc : Nat) (ml : Nat) (mn : Nat) (mk : Nat) (mg : Nat) (mh : Nat) (mq : Nat) (nt : Nat) (pp : Nat) (rl : Nat) (tl : Nat) (se : Nat) (rn : Int32) (ro : Int32) (to : Int32) (wt : Int32) (hn : Int32) (ho : Int32) (fa : Int32) (bk : Int32) (ba : Int32) (spt : Int32) (hre : Int32) (tok : Int32) (val : Int32) (tn : Int32) (f : Nat → Int32) (h_rl : rl ≤ 8) (h_38 : f 38 = nI rl) (h_nt : nt ≤ 6) : Ct l E yX5_less cX5_less 2 (Option.some FieldType.int) 5 112 0 0 [.ref m0] [(m0, .inr (5, [.ref ma, .int (nI nt), .int (nI pp), .int (255), .ref mp, .int (rn), .int (ro), .int (to), .int (wt), .int (hn), .int (ho), .ref mt, .int (nI tl), .int (fa), .int (bk), .int (ba), .int (spt), .int (hre), .int (tok), .int (val), .ref mc, .ref ml, .ref mn, .int (nI se), .ref mk, .ref mg, .ref mh, .ref mq, .int (tn)])), (ma, .inl (E.2.1 1, 172, .inl (f)))] (Rt (some (.int (lsF (fun g => decide (0 < cntM (agM rl (nI (2 ^ (rl - g) - 1)) f) (2 ^ nt))) rl 0))) [(m0, .inr (5, [.ref ma, .int (nI nt), .int (nI pp), .int (255), .ref mp, .int (rn), .int (ro), .int (to), .int (wt), .int (hn), .int (ho), .ref mt, .int (nI tl), .int (fa), .int (bk), .int (ba), .int (spt), .int (hre), .int (tok), .int (val), .ref mc, .ref ml, .ref mn, .int (nI se), .ref mk, .ref mg, .ref mh, .ref mq, .int (tn)])), (ma, .inl (E.2.1 1, 172, .inl (f)))]) := by
  refine Ct.of (own := RX5) (nm := "less") (lv := [(0, .ref m0)]) (by decide) rfl rfl (Nat.le_of_ble_eq_true rfl) rfl ?_
  refine v_iconst (pc := 0) (v := 0) dX5_less_0 (by decide) ?_
  refine v_istore_n (pc := 1) (lv' := [(1, .int (0)), (0, .ref m0)]) dX5_less_1 rfl (by decide) rfl ?_
  have loop_2 : ∀ (D_2 : Nat) (i : Nat), rl - i < D_2 → (i ≤ rl) → (lsF (fun g => decide (0 < cntM (agM rl (nI (2 ^ (rl - g) - 1)) f) (2 ^ nt))) rl 0 = lsF (fun g => decide (0 < cntM (agM rl (nI (2 ^ (rl - g) - 1)) f) (2 ^ nt))) (rl - i) i) → V l E RX5 cX5_less 2 (Option.some FieldType.int) "less" ({ frames := 5, cells := 0, slots := 0, locals := 112 }) [(m0, .inr (5, [.ref ma, .int (nI nt), .int (nI pp), .int (255), .ref mp, .int (rn), .int (ro), .int (to), .int (wt), .int (hn), .int (ho), .ref mt, .int (nI tl), .int (fa), .int (bk), .int (ba), .int (spt), .int (hre), .int (tok), .int (val), .ref mc, .ref ml, .ref mn, .int (nI se), .ref mk, .ref mg, .ref mh, .ref mq, .int (tn)])), (ma, .inl (E.2.1 1, 172, .inl (f)))] 0 0 (Rt (some (.int (lsF (fun g => decide (0 < cntM (agM rl (nI (2 ^ (rl - g) - 1)) f) (2 ^ nt))) rl 0))) [(m0, .inr (5, [.ref ma, .int (nI nt), .int (nI pp), .int (255), .ref mp, .int (rn), .int (ro), .int (to), .int (wt), .int (hn), .int (ho), .ref mt, .int (nI tl), .int (fa), .int (bk), .int (ba), .int (spt), .int (hre), .int (tok), .int (val), .ref mc, .ref ml, .ref mn, .int (nI se), .ref mk, .ref mg, .ref mh, .ref mq, .int (tn)])), (ma, .inl (E.2.1 1, 172, .inl (f)))]) 0 0 2 [(1, .int (nI i)), (0, .ref m0)] [] [(m0, .inr (5, [.ref ma, .int (nI nt), .int (nI pp), .int (255), .ref mp, .int (rn), .int (ro), .int (to), .int (wt), .int (hn), .int (ho), .ref mt, .int (nI tl), .int (fa), .int (bk), .int (ba), .int (spt), .int (hre), .int (tok), .int (val), .ref mc, .ref ml, .ref mn, .int (nI se), .ref mk, .ref mg, .ref mh, .ref mq, .int (tn)])), (ma, .inl (E.2.1 1, 172, .inl (f)))] := by
    intro D_2
    induction D_2 with
    | zero => intro i h; exact absurd h (Nat.not_lt_zero _)
    | succ D_2 ih_2 =>
      intro i hmu_2 h_2_0 h_2_1
      refine v_aload_n (pc := 2) 1 dX5_less_2 rfl rfl ?_
      refine v_aload_n (pc := 3) 1 dX5_less_3 rfl rfl ?_
      refine gf_787 (pc := 4) 0 dX5_less_4 rfl rfl ?_
      refine v_bipush (pc := 7) (v := 38) dX5_less_7 (by decide) ?_
      refine v_ialdN (pc := 9) 1 1 (38) dX5_less_9 rfl rfl rfl (by decide) (by decide) ?_
      refine v_st (st' := [.int (nI rl), .ref m0]) (by rw [h_38]) ?_
      refine v_iload_n (pc := 10) 0 dX5_less_10 rfl rfl ?_
      refine v_isub (pc := 11) dX5_less_11 ?_
      refine v_st (st' := [.int (nI (rl - i)), .ref m0]) (by rw [pk_sub h_2_0]) ?_
      refine v_callV (pc := 12) (rest := []) [0, 1] 0 lk_1065 (c_X5_canBy l E m0 ma mp mt mc ml mn mk mg mh mq nt pp rl tl se 255 rn ro to wt hn ho fa bk ba spt hre tok val tn f (rl - i) (by first | assumption | omega) (by first | assumption | omega) (by first | assumption | omega) (by first | assumption | omega)) dX5_less_12 rfl rfl (Nat.le_of_ble_eq_true rfl) (by decide) rfl rfl rfl (by decide) rfl (Rt.len rfl) (Rt.go ?_)
      refine v_w (ws' := [(m0, .inr (5, [.ref ma, .int (nI nt), .int (nI pp), .int (255), .ref mp, .int (rn), .int (ro), .int (to), .int (wt), .int (hn), .int (ho), .ref mt, .int (nI tl), .int (fa), .int (bk), .int (ba), .int (spt), .int (hre), .int (tok), .int (val), .ref mc, .ref ml, .ref mn, .int (nI se), .ref mk, .ref mg, .ref mh, .ref mq, .int (tn)])), (ma, .inl (E.2.1 1, 172, .inl (f)))]) rfl ?_
      refine v_st (st' := [.int (if 0 < cntM (agM rl (nI (2 ^ (rl - i) - 1)) f) (2 ^ nt) then 1 else 0)]) rfl ?_
      refine v_ifB_ne (pc := 15) 24 dX5_less_15 (by decide) (fun c_15 => ?_) (fun c_15 => ?_)
      · skip
        refine v_iload_n (pc := 24) 0 dX5_less_24 rfl rfl ?_
        refine v_iret (pc := 25) dX5_less_25 rfl ⟨rfl, rfl⟩ (Rt.i ?_)
        rw [h_2_1]
        cases h : rl - i with
        | zero => rfl
        | succ n => rw [lsF, if_pos (by rw [decide_eq_true_eq]; exact c_15)]
      · skip
        have hir : i < rl := by
          rcases Nat.lt_or_ge i rl with z | z
          · exact z
          · exact absurd (by rw [show rl - i = 0 by omega]; exact cnt_th0 h_rl nt) c_15
        refine v_iinc (pc := 18) (v := nI (i + 1)) (lv' := [(1, .int (nI (i + 1))), (0, .ref m0)]) 0 dX5_less_18 rfl (nI_inc (i) 1) (by decide) rfl ?_
        refine v_goto (pc := 21) 2 dX5_less_21 (by decide) ?_
        refine v_lv (lv' := [(1, .int (nI (i + 1))), (0, .ref m0)]) [0, 1] rfl ?_
        refine ih_2 (i + 1) (by omega) ?_ ?_
        · omega
        · rw [h_2_1, show rl - i = (rl - (i + 1)) + 1 by omega, lsF, if_neg (by rw [decide_eq_true_eq]; exact c_15)]
  refine v_lv (lv' := [(1, .int (nI 0)), (0, .ref m0)]) [0, 1] rfl ?_
  refine loop_2 ((rl - 0) + 1) 0 (Nat.lt_succ_self _) ?_ ?_
  · omega
  · rfl
theorem c_X5_begun (l : Launch) (E : VE) (m0 : Nat) (ma : Nat) (mp : Nat) (mt : Nat) (mc : Nat) (ml : Nat) (mn : Nat) (mk : Nat) (mg : Nat) (mh : Nat) (mq : Nat) (nt : Nat) (pp : Nat) (rl : Nat) (tl : Nat) (se : Nat) (th : Int32) (rn : Int32) (ro : Int32) (to : Int32) (wt : Int32) (hn : Int32) (ho : Int32) (fa : Int32) (bk : Int32) (ba : Int32) (spt : Int32) (hre : Int32) (tok : Int32) (val : Int32) (tn : Int32) (f : Nat → Int32) (x : Int32) (h_rl : rl ≤ 8) (h_38 : f 38 = nI rl) : Ct l E yX5_begun cX5_begun 6 (Option.some FieldType.int) 1 24 0 0 [.ref m0, .int (x)] [(m0, .inr (5, [.ref ma, .int (nI nt), .int (nI pp), .int (th), .ref mp, .int (rn), .int (ro), .int (to), .int (wt), .int (hn), .int (ho), .ref mt, .int (nI tl), .int (fa), .int (bk), .int (ba), .int (spt), .int (hre), .int (tok), .int (val), .ref mc, .ref ml, .ref mn, .int (nI se), .ref mk, .ref mg, .ref mh, .ref mq, .int (tn)])), (ma, .inl (E.2.1 1, 172, .inl (f)))] (Rt (some (.int (begTM rl th f x 6))) [(m0, .inr (5, [.ref ma, .int (nI nt), .int (nI pp), .int (th), .ref mp, .int (rn), .int (ro), .int (to), .int (wt), .int (hn), .int (ho), .ref mt, .int (nI tl), .int (fa), .int (bk), .int (ba), .int (spt), .int (hre), .int (tok), .int (val), .ref mc, .ref ml, .ref mn, .int (nI se), .ref mk, .ref mg, .ref mh, .ref mq, .int (tn)])), (ma, .inl (E.2.1 1, 172, .inl (f)))]) := by
  refine Ct.of (own := RX5) (nm := "begun") (lv := [(0, .ref m0), (1, .int (x))]) (by decide) rfl rfl (Nat.le_of_ble_eq_true rfl) rfl ?_
  refine v_iconst (pc := 0) (v := 0) dX5_begun_0 (by decide) ?_
  refine v_istore_n (pc := 1) (lv' := [(2, .int (0)), (0, .ref m0), (1, .int (x))]) dX5_begun_1 rfl (by decide) rfl ?_
  refine v_iconst (pc := 2) (v := 0) dX5_begun_2 (by decide) ?_
  refine v_istore_n (pc := 3) (lv' := [(3, .int (0)), (2, .int (0)), (0, .ref m0), (1, .int (x))]) dX5_begun_3 rfl (by decide) rfl ?_
  have loop_4 : ∀ (D_4 : Nat) (t : Nat) (b : Int32), 6 - t < D_4 → (t ≤ 6) → (b = begTM rl th f x t) → V l E RX5 cX5_begun 6 (Option.some FieldType.int) "begun" ({ frames := 1, cells := 0, slots := 0, locals := 24 }) [(m0, .inr (5, [.ref ma, .int (nI nt), .int (nI pp), .int (th), .ref mp, .int (rn), .int (ro), .int (to), .int (wt), .int (hn), .int (ho), .ref mt, .int (nI tl), .int (fa), .int (bk), .int (ba), .int (spt), .int (hre), .int (tok), .int (val), .ref mc, .ref ml, .ref mn, .int (nI se), .ref mk, .ref mg, .ref mh, .ref mq, .int (tn)])), (ma, .inl (E.2.1 1, 172, .inl (f)))] 0 0 (Rt (some (.int (begTM rl th f x 6))) [(m0, .inr (5, [.ref ma, .int (nI nt), .int (nI pp), .int (th), .ref mp, .int (rn), .int (ro), .int (to), .int (wt), .int (hn), .int (ho), .ref mt, .int (nI tl), .int (fa), .int (bk), .int (ba), .int (spt), .int (hre), .int (tok), .int (val), .ref mc, .ref ml, .ref mn, .int (nI se), .ref mk, .ref mg, .ref mh, .ref mq, .int (tn)])), (ma, .inl (E.2.1 1, 172, .inl (f)))]) 0 0 4 [(3, .int (nI t)), (2, .int (b)), (0, .ref m0), (1, .int (x))] [] [(m0, .inr (5, [.ref ma, .int (nI nt), .int (nI pp), .int (th), .ref mp, .int (rn), .int (ro), .int (to), .int (wt), .int (hn), .int (ho), .ref mt, .int (nI tl), .int (fa), .int (bk), .int (ba), .int (spt), .int (hre), .int (tok), .int (val), .ref mc, .ref ml, .ref mn, .int (nI se), .ref mk, .ref mg, .ref mh, .ref mq, .int (tn)])), (ma, .inl (E.2.1 1, 172, .inl (f)))] := by
    intro D_4
    induction D_4 with
    | zero => intro t b h; exact absurd h (Nat.not_lt_zero _)
    | succ D_4 ih_4 =>
      intro t b hmu_4 h_4_0 h_4_1
      refine v_iload_n (pc := 4) 0 dX5_begun_4 rfl rfl ?_
      refine v_bipush (pc := 5) (v := 6) dX5_begun_5 (by decide) ?_
      refine v_cmpN_ge (pc := 7) (a := t) (b := 6) 107 dX5_begun_7 (by decide) (by omega) (by omega) (fun c_7 => ?_) (fun c_7 => ?_)
      · skip
        refine v_iload_n (pc := 107) 1 dX5_begun_107 rfl rfl ?_
        refine v_iret (pc := 108) dX5_begun_108 rfl ⟨rfl, rfl⟩ (Rt.i ?_)
        obtain rfl : t = 6 := by omega
        exact h_4_1
      · skip
        refine v_iconst (pc := 10) (v := 0) dX5_begun_10 (by decide) ?_
        refine v_istore (pc := 11) (lv' := [(4, .int (0)), (3, .int (nI t)), (2, .int (b)), (0, .ref m0), (1, .int (x))]) dX5_begun_11 (by decide) rfl ?_
        have loop_13 : ∀ (D_13 : Nat) (i : Nat) (acc : Int32), rl - i < D_13 → (i ≤ rl) → (acc = begKM th f x i b) → V l E RX5 cX5_begun 6 (Option.some FieldType.int) "begun" ({ frames := 1, cells := 0, slots := 0, locals := 24 }) [(m0, .inr (5, [.ref ma, .int (nI nt), .int (nI pp), .int (th), .ref mp, .int (rn), .int (ro), .int (to), .int (wt), .int (hn), .int (ho), .ref mt, .int (nI tl), .int (fa), .int (bk), .int (ba), .int (spt), .int (hre), .int (tok), .int (val), .ref mc, .ref ml, .ref mn, .int (nI se), .ref mk, .ref mg, .ref mh, .ref mq, .int (tn)])), (ma, .inl (E.2.1 1, 172, .inl (f)))] 0 0 (Rt (some (.int (begTM rl th f x 6))) [(m0, .inr (5, [.ref ma, .int (nI nt), .int (nI pp), .int (th), .ref mp, .int (rn), .int (ro), .int (to), .int (wt), .int (hn), .int (ho), .ref mt, .int (nI tl), .int (fa), .int (bk), .int (ba), .int (spt), .int (hre), .int (tok), .int (val), .ref mc, .ref ml, .ref mn, .int (nI se), .ref mk, .ref mg, .ref mh, .ref mq, .int (tn)])), (ma, .inl (E.2.1 1, 172, .inl (f)))]) 0 0 13 [(4, .int (nI i)), (2, .int (acc)), (3, .int (nI t)), (0, .ref m0), (1, .int (x))] [] [(m0, .inr (5, [.ref ma, .int (nI nt), .int (nI pp), .int (th), .ref mp, .int (rn), .int (ro), .int (to), .int (wt), .int (hn), .int (ho), .ref mt, .int (nI tl), .int (fa), .int (bk), .int (ba), .int (spt), .int (hre), .int (tok), .int (val), .ref mc, .ref ml, .ref mn, .int (nI se), .ref mk, .ref mg, .ref mh, .ref mq, .int (tn)])), (ma, .inl (E.2.1 1, 172, .inl (f)))] := by
          intro D_13
          induction D_13 with
          | zero => intro i acc h; exact absurd h (Nat.not_lt_zero _)
          | succ D_13 ih_13 =>
            intro i acc hmu_13 h_13_0 h_13_1
            refine v_iload (pc := 13) 0 dX5_begun_13 rfl ?_
            refine v_aload_n (pc := 15) 3 dX5_begun_15 rfl rfl ?_
            refine gf_787 (pc := 16) 0 dX5_begun_16 rfl rfl ?_
            refine v_bipush (pc := 19) (v := 38) dX5_begun_19 (by decide) ?_
            refine v_ialdN (pc := 21) 1 1 (38) dX5_begun_21 rfl rfl rfl (by decide) (by decide) ?_
            refine v_st (st' := [.int (nI rl), .int (nI i)]) (by rw [h_38]) ?_
            refine v_cmpN_ge (pc := 22) (a := i) (b := rl) 101 dX5_begun_22 (by decide) (by omega) (by omega) (fun c_22 => ?_) (fun c_22 => ?_)
            · skip
              refine v_iinc (pc := 101) (v := nI (t + 1)) (lv' := [(3, .int (nI (t + 1))), (4, .int (nI i)), (2, .int (acc)), (0, .ref m0), (1, .int (x))]) 2 dX5_begun_101 rfl (nI_inc (t) 1) (by decide) rfl ?_
              refine v_goto (pc := 104) 4 dX5_begun_104 (by decide) ?_
              refine v_lv (lv' := [(3, .int (nI (t + 1))), (2, .int (acc)), (0, .ref m0), (1, .int (x))]) [0, 2, 3, 4] rfl ?_
              refine ih_4 (t + 1) acc (by omega) ?_ ?_
              · omega
              · obtain rfl : i = rl := by omega
                rw [h_13_1, h_4_1]; rfl
            · skip
              refine v_aload_n (pc := 25) 3 dX5_begun_25 rfl rfl ?_
              refine v_iload (pc := 26) 0 dX5_begun_26 rfl ?_
              refine v_iload_n (pc := 28) 4 dX5_begun_28 rfl rfl ?_
              refine v_callV (pc := 29) (rest := []) [0, 1] 0 lk_958 (c_X5_holds l E m0 ma mp mt mc ml mn mk mg mh mq nt pp tl se th rn ro to wt hn ho fa bk ba spt hre tok val tn f i x (by omega)) dX5_begun_29 rfl rfl (Nat.le_of_ble_eq_true rfl) (by decide) rfl rfl rfl (by decide) rfl (Rt.len rfl) (Rt.go ?_)
              refine v_w (ws' := [(m0, .inr (5, [.ref ma, .int (nI nt), .int (nI pp), .int (th), .ref mp, .int (rn), .int (ro), .int (to), .int (wt), .int (hn), .int (ho), .ref mt, .int (nI tl), .int (fa), .int (bk), .int (ba), .int (spt), .int (hre), .int (tok), .int (val), .ref mc, .ref ml, .ref mn, .int (nI se), .ref mk, .ref mg, .ref mh, .ref mq, .int (tn)])), (ma, .inl (E.2.1 1, 172, .inl (f)))]) rfl ?_
              refine v_st (st' := [.int (if hldM th f i x then 1 else 0)]) rfl ?_
              refine v_ifB_eq (pc := 32) 60 dX5_begun_32 (by decide) (fun c_32 => ?_) (fun c_32 => ?_)
              · skip
                refine v_iconst (pc := 60) (v := 0) dX5_begun_60 (by decide) ?_
                refine v_istore (pc := 61) (lv' := [(5, .int (0)), (4, .int (nI i)), (2, .int (acc)), (3, .int (nI t)), (0, .ref m0), (1, .int (x))]) dX5_begun_61 (by decide) rfl ?_
                refine v_iload_n (pc := 63) 2 dX5_begun_63 rfl rfl ?_
                refine v_iload (pc := 64) 0 dX5_begun_64 rfl ?_
                refine v_if_eq (pc := 66) 92 dX5_begun_66 (by decide) (fun _ => ?_) (fun c => absurd c (by decide))
                refine v_iconst (pc := 92) (v := 0) dX5_begun_92 (by decide) ?_
                refine v_ior (pc := 93) dX5_begun_93 ?_
                refine v_istore_n (pc := 94) (lv' := [(2, .int ((acc) ||| (0))), (5, .int (0)), (4, .int (nI i)), (3, .int (nI t)), (0, .ref m0), (1, .int (x))]) dX5_begun_94 rfl (by decide) rfl ?_
                refine v_iinc (pc := 95) (v := nI (i + 1)) (lv' := [(4, .int (nI (i + 1))), (2, .int ((acc) ||| (0))), (5, .int (0)), (3, .int (nI t)), (0, .ref m0), (1, .int (x))]) 2 dX5_begun_95 rfl (nI_inc (i) 1) (by decide) rfl ?_
                refine v_goto (pc := 98) 13 dX5_begun_98 (by decide) ?_
                refine v_lv (lv' := [(4, .int (nI (i + 1))), (2, .int ((acc) ||| (0))), (3, .int (nI t)), (0, .ref m0), (1, .int (x))]) [0, 1, 3, 4, 5] rfl ?_
                refine ih_13 (i + 1) ((acc) ||| (0)) (by omega) ?_ ?_
                · omega
                · simp only [begKM]; rw [← h_13_1, if_neg (fun q => c_32 q.1), or0]
              · skip
                refine v_aload_n (pc := 35) 3 dX5_begun_35 rfl rfl ?_
                refine gf_787 (pc := 36) 0 dX5_begun_36 rfl rfl ?_
                refine v_bipush (pc := 39) (v := 6) dX5_begun_39 (by decide) ?_
                refine v_iconst (pc := 41) (v := 4) dX5_begun_41 (by decide) ?_
                refine v_iload (pc := 42) 0 dX5_begun_42 rfl ?_
                refine v_imul (pc := 44) dX5_begun_44 ?_
                refine v_st (st' := [.int (nI (4 * i)), .int (6), .ref ma]) (congrArg (fun z => Value.int z :: _) (pk_mul 4 i)) ?_
                refine v_iadd (pc := 45) dX5_begun_45 ?_
                refine v_st (st' := [.int (nI (6 + (4 * i))), .ref ma]) (congrArg (fun z => Value.int z :: _) (nI_add 6 (4 * i))) ?_
                refine v_iconst (pc := 46) (v := 2) dX5_begun_46 (by decide) ?_
                refine v_iadd (pc := 47) dX5_begun_47 ?_
                refine v_st (st' := [.int (nI ((6 + (4 * i)) + 2)), .ref ma]) (congrArg (fun z => Value.int z :: _) (nI_add (6 + (4 * i)) 2)) ?_
                refine v_ialdN (pc := 48) 1 1 ((6 + (4 * i)) + 2) dX5_begun_48 rfl rfl rfl (by omega) (by decide) ?_
                refine v_iload_n (pc := 49) 1 dX5_begun_49 rfl rfl ?_
                refine v_iconst (pc := 50) (v := -1) dX5_begun_50 (by decide) ?_
                refine v_ixor (pc := 51) dX5_begun_51 ?_
                refine v_iand (pc := 52) dX5_begun_52 ?_
                refine v_if_ne (pc := 53) 60 dX5_begun_53 (by decide) (fun c_53 => ?_) (fun c_53 => ?_)
                · skip
                  refine v_iconst (pc := 60) (v := 0) dX5_begun_60 (by decide) ?_
                  refine v_istore (pc := 61) (lv' := [(5, .int (0)), (4, .int (nI i)), (2, .int (acc)), (3, .int (nI t)), (0, .ref m0), (1, .int (x))]) dX5_begun_61 (by decide) rfl ?_
                  refine v_iload_n (pc := 63) 2 dX5_begun_63 rfl rfl ?_
                  refine v_iload (pc := 64) 0 dX5_begun_64 rfl ?_
                  refine v_if_eq (pc := 66) 92 dX5_begun_66 (by decide) (fun _ => ?_) (fun c => absurd c (by decide))
                  refine v_iconst (pc := 92) (v := 0) dX5_begun_92 (by decide) ?_
                  refine v_ior (pc := 93) dX5_begun_93 ?_
                  refine v_istore_n (pc := 94) (lv' := [(2, .int ((acc) ||| (0))), (5, .int (0)), (4, .int (nI i)), (3, .int (nI t)), (0, .ref m0), (1, .int (x))]) dX5_begun_94 rfl (by decide) rfl ?_
                  refine v_iinc (pc := 95) (v := nI (i + 1)) (lv' := [(4, .int (nI (i + 1))), (2, .int ((acc) ||| (0))), (5, .int (0)), (3, .int (nI t)), (0, .ref m0), (1, .int (x))]) 2 dX5_begun_95 rfl (nI_inc (i) 1) (by decide) rfl ?_
                  refine v_goto (pc := 98) 13 dX5_begun_98 (by decide) ?_
                  refine v_lv (lv' := [(4, .int (nI (i + 1))), (2, .int ((acc) ||| (0))), (3, .int (nI t)), (0, .ref m0), (1, .int (x))]) [0, 1, 3, 4, 5] rfl ?_
                  refine ih_13 (i + 1) ((acc) ||| (0)) (by omega) ?_ ?_
                  · omega
                  · simp only [begKM]; rw [← h_13_1, if_neg (fun q => c_53 q.2), or0]
                · skip
                  refine v_iconst (pc := 56) (v := 1) dX5_begun_56 (by decide) ?_
                  refine v_goto (pc := 57) 61 dX5_begun_57 (by decide) ?_
                  refine v_istore (pc := 61) (lv' := [(5, .int (1)), (4, .int (nI i)), (2, .int (acc)), (3, .int (nI t)), (0, .ref m0), (1, .int (x))]) dX5_begun_61 (by decide) rfl ?_
                  refine v_iload_n (pc := 63) 2 dX5_begun_63 rfl rfl ?_
                  refine v_iload (pc := 64) 0 dX5_begun_64 rfl ?_
                  refine v_if_eq (pc := 66) 92 dX5_begun_66 (by decide) (fun c => absurd c (by decide)) (fun _ => ?_)
                  refine v_iconst (pc := 69) (v := 1) dX5_begun_69 (by decide) ?_
                  refine v_aload_n (pc := 70) 4 dX5_begun_70 rfl rfl ?_
                  refine v_iload (pc := 71) 1 dX5_begun_71 rfl ?_
                  refine v_callV (pc := 73) (rest := [.int (1), .int (acc)]) [0, 1] 0 lk_1032 (c_X5_noteOf l E m0 ma mp mt mc ml mn mk mg mh mq nt pp tl se th rn ro to wt hn ho fa bk ba spt hre tok val tn f i (by omega)) dX5_begun_73 rfl rfl (Nat.le_of_ble_eq_true rfl) (by decide) rfl rfl rfl (by decide) rfl (Rt.len rfl) (Rt.go ?_)
                  refine v_w (ws' := [(m0, .inr (5, [.ref ma, .int (nI nt), .int (nI pp), .int (th), .ref mp, .int (rn), .int (ro), .int (to), .int (wt), .int (hn), .int (ho), .ref mt, .int (nI tl), .int (fa), .int (bk), .int (ba), .int (spt), .int (hre), .int (tok), .int (val), .ref mc, .ref ml, .ref mn, .int (nI se), .ref mk, .ref mg, .ref mh, .ref mq, .int (tn)])), (ma, .inl (E.2.1 1, 172, .inl (f)))]) rfl ?_
                  refine v_st (st' := [.int (f (6 + 4 * i + 1)), .int (1), .int (acc)]) rfl ?_
                  refine v_ishl (pc := 76) dX5_begun_76 ?_
                  refine v_iload_n (pc := 77) 5 dX5_begun_77 rfl rfl ?_
                  refine v_iand (pc := 78) dX5_begun_78 ?_
                  refine v_aload_n (pc := 79) 4 dX5_begun_79 rfl rfl ?_
                  refine gf_787 (pc := 80) 0 dX5_begun_80 rfl rfl ?_
                  refine v_bipush (pc := 83) (v := 40) dX5_begun_83 (by decide) ?_
                  refine v_ialdN (pc := 85) 1 1 (40) dX5_begun_85 rfl rfl rfl (by decide) (by decide) ?_
                  refine v_iconst (pc := 86) (v := -1) dX5_begun_86 (by decide) ?_
                  refine v_ixor (pc := 87) dX5_begun_87 ?_
                  refine v_iand (pc := 88) dX5_begun_88 ?_
                  refine v_goto (pc := 89) 93 dX5_begun_89 (by decide) ?_
                  refine v_ior (pc := 93) dX5_begun_93 ?_
                  refine v_istore_n (pc := 94) (lv' := [(2, .int ((acc) ||| ((((1 : Int32) <<< ((f (6 + 4 * i + 1)) &&& 31)) &&& (x)) &&& ((f 40) ^^^ (-1))))), (5, .int (1)), (4, .int (nI i)), (3, .int (nI t)), (0, .ref m0), (1, .int (x))]) dX5_begun_94 rfl (by decide) rfl ?_
                  refine v_iinc (pc := 95) (v := nI (i + 1)) (lv' := [(4, .int (nI (i + 1))), (2, .int ((acc) ||| ((((1 : Int32) <<< ((f (6 + 4 * i + 1)) &&& 31)) &&& (x)) &&& ((f 40) ^^^ (-1))))), (5, .int (1)), (3, .int (nI t)), (0, .ref m0), (1, .int (x))]) 2 dX5_begun_95 rfl (nI_inc (i) 1) (by decide) rfl ?_
                  refine v_goto (pc := 98) 13 dX5_begun_98 (by decide) ?_
                  refine v_lv (lv' := [(4, .int (nI (i + 1))), (2, .int ((acc) ||| ((((1 : Int32) <<< ((f (6 + 4 * i + 1)) &&& 31)) &&& (x)) &&& ((f 40) ^^^ (-1))))), (3, .int (nI t)), (0, .ref m0), (1, .int (x))]) [0, 1, 3, 4, 5] rfl ?_
                  refine ih_13 (i + 1) ((acc) ||| ((((1 : Int32) <<< ((f (6 + 4 * i + 1)) &&& 31)) &&& (x)) &&& ((f 40) ^^^ (-1)))) (by omega) ?_ ?_
                  · omega
                  · simp only [begKM]; rw [← h_13_1, if_pos ⟨c_32, c_53⟩]
        refine v_lv (lv' := [(4, .int (nI 0)), (2, .int (b)), (3, .int (nI t)), (0, .ref m0), (1, .int (x))]) [0, 2, 1, 3, 4] rfl ?_
        refine loop_13 ((rl - 0) + 1) 0 b (Nat.lt_succ_self _) ?_ ?_
        · omega
        · rfl
  refine v_lv (lv' := [(3, .int (nI 0)), (2, .int (0)), (0, .ref m0), (1, .int (x))]) [0, 1, 2, 3] rfl ?_
  refine loop_4 ((6 - 0) + 1) 0 0 (Nat.lt_succ_self _) ?_ ?_
  · omega
  · rfl
theorem c_X5_begins (l : Launch) (E : VE) (m0 : Nat) (ma : Nat) (mp : Nat) (mt : Nat) (mc : Nat) (ml : Nat) (mn : Nat) (mk : Nat) (mg : Nat) (mh : Nat) (mq : Nat) (nt : Nat) (pp : Nat) (rl : Nat) (tl : Nat) (se : Nat) (th : Int32) (rn : Int32) (ro : Int32) (to : Int32) (wt : Int32) (hn : Int32) (ho : Int32) (fa : Int32) (bk : Int32) (ba : Int32) (spt : Int32) (hre : Int32) (tok : Int32) (val : Int32) (tn : Int32) (f : Nat → Int32) (x : Int32) (h_rl : rl ≤ 8) (h_38 : f 38 = nI rl) (h_nt : nt ≤ 6) : Ct l E yX5_begins cX5_begins 2 (Option.some FieldType.int) 2 49 0 0 [.ref m0, .int (x)] [(m0, .inr (5, [.ref ma, .int (nI nt), .int (nI pp), .int (th), .ref mp, .int (rn), .int (ro), .int (to), .int (wt), .int (hn), .int (ho), .ref mt, .int (nI tl), .int (fa), .int (bk), .int (ba), .int (spt), .int (hre), .int (tok), .int (val), .ref mc, .ref ml, .ref mn, .int (nI se), .ref mk, .ref mg, .ref mh, .ref mq, .int (tn)])), (ma, .inl (E.2.1 1, 172, .inl (f)))] (Rt (some (.int (if ¬ x < 0 ∧ ¬ nI (2 ^ nt - 1) < x then begTM rl th f x 6 else -1))) [(m0, .inr (5, [.ref ma, .int (nI nt), .int (nI pp), .int (th), .ref mp, .int (rn), .int (ro), .int (to), .int (wt), .int (hn), .int (ho), .ref mt, .int (nI tl), .int (fa), .int (bk), .int (ba), .int (spt), .int (hre), .int (tok), .int (val), .ref mc, .ref ml, .ref mn, .int (nI se), .ref mk, .ref mg, .ref mh, .ref mq, .int (tn)])), (ma, .inl (E.2.1 1, 172, .inl (f)))]) := by
  refine Ct.of (own := RX5) (nm := "begins") (lv := [(0, .ref m0), (1, .int (x))]) (by decide) rfl rfl (Nat.le_of_ble_eq_true rfl) rfl ?_
  refine v_aload_n (pc := 0) 0 dX5_begins_0 rfl rfl ?_
  refine v_iload_n (pc := 1) 1 dX5_begins_1 rfl rfl ?_
  refine v_callV (pc := 2) (rest := []) [0] 0 lk_1020 (c_X5_isSet l E m0 ma mp mt mc ml mn mk mg mh mq nt pp tl se th rn ro to wt hn ho fa bk ba spt hre tok val tn x (by first | assumption | omega)) dX5_begins_2 rfl rfl (Nat.le_of_ble_eq_true rfl) (by decide) rfl rfl rfl (by decide) rfl (Rt.len rfl) (Rt.go ?_)
  refine v_w (ws' := [(m0, .inr (5, [.ref ma, .int (nI nt), .int (nI pp), .int (th), .ref mp, .int (rn), .int (ro), .int (to), .int (wt), .int (hn), .int (ho), .ref mt, .int (nI tl), .int (fa), .int (bk), .int (ba), .int (spt), .int (hre), .int (tok), .int (val), .ref mc, .ref ml, .ref mn, .int (nI se), .ref mk, .ref mg, .ref mh, .ref mq, .int (tn)])), (ma, .inl (E.2.1 1, 172, .inl (f)))]) rfl ?_
  refine v_st (st' := [.int (if ¬ x < 0 ∧ ¬ nI (2 ^ nt - 1) < x then 1 else 0)]) rfl ?_
  refine v_ifB_eq (pc := 5) 16 dX5_begins_5 (by decide) (fun c_5 => ?_) (fun c_5 => ?_)
  · skip
    refine v_iconst (pc := 16) (v := -1) dX5_begins_16 (by decide) ?_
    refine v_iret (pc := 17) dX5_begins_17 rfl ⟨rfl, rfl⟩ (Rt.i ?_)
    first | simp only [if_neg c_5] | rfl
  · skip
    refine v_aload_n (pc := 8) 0 dX5_begins_8 rfl rfl ?_
    refine v_iload_n (pc := 9) 1 dX5_begins_9 rfl rfl ?_
    refine v_callV (pc := 10) (rest := []) [0, 1] 0 lk_1081 (c_X5_begun l E m0 ma mp mt mc ml mn mk mg mh mq nt pp rl tl se th rn ro to wt hn ho fa bk ba spt hre tok val tn f x (by first | assumption | omega) (by first | assumption | omega)) dX5_begins_10 rfl rfl (Nat.le_of_ble_eq_true rfl) (by decide) rfl rfl rfl (by decide) rfl (Rt.len rfl) (Rt.go ?_)
    refine v_w (ws' := [(m0, .inr (5, [.ref ma, .int (nI nt), .int (nI pp), .int (th), .ref mp, .int (rn), .int (ro), .int (to), .int (wt), .int (hn), .int (ho), .ref mt, .int (nI tl), .int (fa), .int (bk), .int (ba), .int (spt), .int (hre), .int (tok), .int (val), .ref mc, .ref ml, .ref mn, .int (nI se), .ref mk, .ref mg, .ref mh, .ref mq, .int (tn)])), (ma, .inl (E.2.1 1, 172, .inl (f)))]) rfl ?_
    refine v_st (st' := [.int (begTM rl th f x 6)]) rfl ?_
    refine v_goto (pc := 13) 17 dX5_begins_13 (by decide) ?_
    refine v_iret (pc := 17) dX5_begins_17 rfl ⟨rfl, rfl⟩ (Rt.i ?_)
    first | simp only [if_pos c_5] | rfl
theorem c_X5_pure (l : Launch) (E : VE) (m0 : Nat) (ma : Nat) (mp : Nat) (mt : Nat) (mc : Nat) (ml : Nat) (mn : Nat) (mk : Nat) (mg : Nat) (mh : Nat) (mq : Nat) (nt : Nat) (pp : Nat) (rl : Nat) (tl : Nat) (se : Nat) (th : Int32) (rn : Int32) (ro : Int32) (to : Int32) (wt : Int32) (hn : Int32) (ho : Int32) (fa : Int32) (bk : Int32) (ba : Int32) (spt : Int32) (hre : Int32) (tok : Int32) (val : Int32) (tn : Int32) (f : Nat → Int32) (x : Int32) (h_rl : rl ≤ 8) (h_38 : f 38 = nI rl) (h_nt : nt ≤ 6) : Ct l E yX5_pure cX5_pure 5 (Option.some FieldType.int) 3 68 0 0 [.ref m0, .int (x)] [(m0, .inr (5, [.ref ma, .int (nI nt), .int (nI pp), .int (th), .ref mp, .int (rn), .int (ro), .int (to), .int (wt), .int (hn), .int (ho), .ref mt, .int (nI tl), .int (fa), .int (bk), .int (ba), .int (spt), .int (hre), .int (tok), .int (val), .ref mc, .ref ml, .ref mn, .int (nI se), .ref mk, .ref mg, .ref mh, .ref mq, .int (tn)])), (ma, .inl (E.2.1 1, 172, .inl (f)))] (Rt (some (.int (if ¬ x < 0 ∧ ¬ 1 < x then (if x = 0 then nI (dyK (fun s => agM rl th f s && decide (begTM rl th f (nI s) 6 = nI s)) 0 (2 ^ nt)).1 else (dyK (fun s => agM rl th f s && decide (begTM rl th f (nI s) 6 = nI s)) 0 (2 ^ nt)).2.1) else -1))) [(m0, .inr (5, [.ref ma, .int (nI nt), .int (nI pp), .int (th), .ref mp, .int (rn), .int (ro), .int (to), .int (wt), .int (hn), .int (ho), .ref mt, .int (nI tl), .int (fa), .int (bk), .int (ba), .int (spt), .int (hre), .int (tok), .int (val), .ref mc, .ref ml, .ref mn, .int (nI se), .ref mk, .ref mg, .ref mh, .ref mq, .int (tn)])), (ma, .inl (E.2.1 1, 172, .inl (f)))]) := by
  refine Ct.of (own := RX5) (nm := "pure") (lv := [(0, .ref m0), (1, .int (x))]) (by decide) rfl rfl (Nat.le_of_ble_eq_true rfl) rfl ?_
  have h64 := p64 h_nt
  have h0p := p1 nt
  refine v_iload_n (pc := 0) 1 dX5_pure_0 rfl rfl ?_
  refine v_i2l (pc := 1) dX5_pure_1 ?_
  refine v_lconst (pc := 2) (v := 0) dX5_pure_2 (by decide) ?_
  refine v_lconst (pc := 3) (v := 1) dX5_pure_3 (by decide) ?_
  refine v_callS (pc := 4) (rest := []) [] lk_880 (c_X5_in l E (Int32.toInt64 (x)) 0 1) dX5_pure_4 rfl rfl (Nat.le_of_ble_eq_true rfl) (by decide) (by decide) rfl (Rt.len rfl) (Rt.go ?_)
  refine v_w (ws' := [(m0, .inr (5, [.ref ma, .int (nI nt), .int (nI pp), .int (th), .ref mp, .int (rn), .int (ro), .int (to), .int (wt), .int (hn), .int (ho), .ref mt, .int (nI tl), .int (fa), .int (bk), .int (ba), .int (spt), .int (hre), .int (tok), .int (val), .ref mc, .ref ml, .ref mn, .int (nI se), .ref mk, .ref mg, .ref mh, .ref mq, .int (tn)])), (ma, .inl (E.2.1 1, 172, .inl (f)))]) rfl ?_
  refine v_st (st' := [.int (if ¬ (Int32.toInt64 (x)) < 0 ∧ ¬ 1 < (Int32.toInt64 (x)) then 1 else 0)]) rfl ?_
  refine v_st (st' := [.int (if ¬ x < 0 ∧ ¬ 1 < x then 1 else 0)]) (ite_st (inK (a := 0) (b := 1)) _) ?_
  refine v_ifB_ne (pc := 7) 12 dX5_pure_7 (by decide) (fun c_7 => ?_) (fun c_7 => ?_)
  · skip
    refine v_iconst (pc := 12) (v := 0) dX5_pure_12 (by decide) ?_
    refine v_istore_n (pc := 13) (lv' := [(2, .int (0)), (0, .ref m0), (1, .int (x))]) dX5_pure_13 rfl (by decide) rfl ?_
    refine v_bipush (pc := 14) (v := -4) dX5_pure_14 (by decide) ?_
    refine v_istore_n (pc := 16) (lv' := [(3, .int (-4)), (2, .int (0)), (0, .ref m0), (1, .int (x))]) dX5_pure_16 rfl (by decide) rfl ?_
    refine v_iconst (pc := 17) (v := 0) dX5_pure_17 (by decide) ?_
    refine v_istore (pc := 18) (lv' := [(4, .int (0)), (3, .int (-4)), (2, .int (0)), (0, .ref m0), (1, .int (x))]) dX5_pure_18 (by decide) rfl ?_
    have loop_20 : ∀ (D_20 : Nat) (i : Nat) (n : Nat) (le : Int32), 2 ^ nt - i < D_20 → (i ≤ 2 ^ nt) → (n ≤ i) → (n = (dyK (fun s => agM rl th f s && decide (begTM rl th f (nI s) 6 = nI s)) 0 i).1 ∧ le = (dyK (fun s => agM rl th f s && decide (begTM rl th f (nI s) 6 = nI s)) 0 i).2.1) → V l E RX5 cX5_pure 5 (Option.some FieldType.int) "pure" ({ frames := 3, cells := 0, slots := 0, locals := 68 }) [(m0, .inr (5, [.ref ma, .int (nI nt), .int (nI pp), .int (th), .ref mp, .int (rn), .int (ro), .int (to), .int (wt), .int (hn), .int (ho), .ref mt, .int (nI tl), .int (fa), .int (bk), .int (ba), .int (spt), .int (hre), .int (tok), .int (val), .ref mc, .ref ml, .ref mn, .int (nI se), .ref mk, .ref mg, .ref mh, .ref mq, .int (tn)])), (ma, .inl (E.2.1 1, 172, .inl (f)))] 0 0 (Rt (some (.int (if ¬ x < 0 ∧ ¬ 1 < x then (if x = 0 then nI (dyK (fun s => agM rl th f s && decide (begTM rl th f (nI s) 6 = nI s)) 0 (2 ^ nt)).1 else (dyK (fun s => agM rl th f s && decide (begTM rl th f (nI s) 6 = nI s)) 0 (2 ^ nt)).2.1) else -1))) [(m0, .inr (5, [.ref ma, .int (nI nt), .int (nI pp), .int (th), .ref mp, .int (rn), .int (ro), .int (to), .int (wt), .int (hn), .int (ho), .ref mt, .int (nI tl), .int (fa), .int (bk), .int (ba), .int (spt), .int (hre), .int (tok), .int (val), .ref mc, .ref ml, .ref mn, .int (nI se), .ref mk, .ref mg, .ref mh, .ref mq, .int (tn)])), (ma, .inl (E.2.1 1, 172, .inl (f)))]) 0 0 20 [(4, .int (nI i)), (2, .int (nI n)), (3, .int (le)), (0, .ref m0), (1, .int (x))] [] [(m0, .inr (5, [.ref ma, .int (nI nt), .int (nI pp), .int (th), .ref mp, .int (rn), .int (ro), .int (to), .int (wt), .int (hn), .int (ho), .ref mt, .int (nI tl), .int (fa), .int (bk), .int (ba), .int (spt), .int (hre), .int (tok), .int (val), .ref mc, .ref ml, .ref mn, .int (nI se), .ref mk, .ref mg, .ref mh, .ref mq, .int (tn)])), (ma, .inl (E.2.1 1, 172, .inl (f)))] := by
      intro D_20
      induction D_20 with
      | zero => intro i n le h; exact absurd h (Nat.not_lt_zero _)
      | succ D_20 ih_20 =>
        intro i n le hmu_20 h_20_0 h_20_1 h_20_2
        refine v_iload (pc := 20) 0 dX5_pure_20 rfl ?_
        refine v_aload_n (pc := 22) 3 dX5_pure_22 rfl rfl ?_
        refine v_callV (pc := 23) (rest := [.int (nI i)]) [0] 0 lk_1024 (c_X5_sets l E m0 ma mp mt mc ml mn mk mg mh mq nt pp tl se th rn ro to wt hn ho fa bk ba spt hre tok val tn (by first | assumption | omega)) dX5_pure_23 rfl rfl (Nat.le_of_ble_eq_true rfl) (by decide) rfl rfl rfl (by decide) rfl (Rt.len rfl) (Rt.go ?_)
        refine v_w (ws' := [(m0, .inr (5, [.ref ma, .int (nI nt), .int (nI pp), .int (th), .ref mp, .int (rn), .int (ro), .int (to), .int (wt), .int (hn), .int (ho), .ref mt, .int (nI tl), .int (fa), .int (bk), .int (ba), .int (spt), .int (hre), .int (tok), .int (val), .ref mc, .ref ml, .ref mn, .int (nI se), .ref mk, .ref mg, .ref mh, .ref mq, .int (tn)])), (ma, .inl (E.2.1 1, 172, .inl (f)))]) rfl ?_
        refine v_st (st' := [.int (nI (2 ^ nt)), .int (nI i)]) rfl ?_
        refine v_cmpN_ge (pc := 26) (a := i) (b := 2 ^ nt) 69 dX5_pure_26 (by decide) (by omega) (by omega) (fun c_26 => ?_) (fun c_26 => ?_)
        · skip
          refine v_iload_n (pc := 69) 4 dX5_pure_69 rfl rfl ?_
          refine v_if_ne (pc := 70) 77 dX5_pure_70 (by decide) (fun c_70 => ?_) (fun c_70 => ?_)
          · skip
            refine v_iload_n (pc := 77) 2 dX5_pure_77 rfl rfl ?_
            refine v_iret (pc := 78) dX5_pure_78 rfl ⟨rfl, rfl⟩ (Rt.i ?_)
            obtain rfl : i = 2 ^ nt := by omega
            rw [if_pos c_7, if_neg c_70]; exact h_20_2.2
          · skip
            refine v_iload_n (pc := 73) 1 dX5_pure_73 rfl rfl ?_
            refine v_goto (pc := 74) 78 dX5_pure_74 (by decide) ?_
            refine v_iret (pc := 78) dX5_pure_78 rfl ⟨rfl, rfl⟩ (Rt.i ?_)
            obtain rfl : i = 2 ^ nt := by omega
            rw [if_pos c_7, if_pos c_70, h_20_2.1]
        · skip
          refine v_aload_n (pc := 29) 3 dX5_pure_29 rfl rfl ?_
          refine v_iload (pc := 30) 0 dX5_pure_30 rfl ?_
          refine v_callV (pc := 32) (rest := []) [0, 1] 0 lk_1057 (c_X5_agrees l E m0 ma mp mt mc ml mn mk mg mh mq nt pp rl tl se th rn ro to wt hn ho fa bk ba spt hre tok val tn f (nI i) (by first | assumption | omega) (by first | assumption | omega)) dX5_pure_32 rfl rfl (Nat.le_of_ble_eq_true rfl) (by decide) rfl rfl rfl (by decide) rfl (Rt.len rfl) (Rt.go ?_)
          refine v_w (ws' := [(m0, .inr (5, [.ref ma, .int (nI nt), .int (nI pp), .int (th), .ref mp, .int (rn), .int (ro), .int (to), .int (wt), .int (hn), .int (ho), .ref mt, .int (nI tl), .int (fa), .int (bk), .int (ba), .int (spt), .int (hre), .int (tok), .int (val), .ref mc, .ref ml, .ref mn, .int (nI se), .ref mk, .ref mg, .ref mh, .ref mq, .int (tn)])), (ma, .inl (E.2.1 1, 172, .inl (f)))]) rfl ?_
          refine v_st (st' := [.int (if outM rl th f (nI i) = (nI i) then 1 else 0)]) rfl ?_
          refine v_ifB_eq (pc := 35) 63 dX5_pure_35 (by decide) (fun c_35 => ?_) (fun c_35 => ?_)
          · skip
            refine v_iinc (pc := 63) (v := nI (i + 1)) (lv' := [(4, .int (nI (i + 1))), (2, .int (nI n)), (3, .int (le)), (0, .ref m0), (1, .int (x))]) 0 dX5_pure_63 rfl (nI_inc (i) 1) (by decide) rfl ?_
            refine v_goto (pc := 66) 20 dX5_pure_66 (by decide) ?_
            refine v_lv (lv' := [(4, .int (nI (i + 1))), (2, .int (nI n)), (3, .int (le)), (0, .ref m0), (1, .int (x))]) [0, 1, 2, 3, 4] rfl ?_
            refine ih_20 (i + 1) n le (by omega) ?_ ?_ ?_
            · omega
            · omega
            · simp only [dyK]; rw [if_neg (by simp only [agM, Bool.and_eq_true, decide_eq_true_eq]; exact fun q => c_35 q.1)]; exact h_20_2
          · skip
            refine v_aload_n (pc := 38) 3 dX5_pure_38 rfl rfl ?_
            refine v_iload (pc := 39) 0 dX5_pure_39 rfl ?_
            refine v_callV (pc := 41) (rest := []) [0, 1] 0 lk_1081 (c_X5_begun l E m0 ma mp mt mc ml mn mk mg mh mq nt pp rl tl se th rn ro to wt hn ho fa bk ba spt hre tok val tn f (nI i) (by first | assumption | omega) (by first | assumption | omega)) dX5_pure_41 rfl rfl (Nat.le_of_ble_eq_true rfl) (by decide) rfl rfl rfl (by decide) rfl (Rt.len rfl) (Rt.go ?_)
            refine v_w (ws' := [(m0, .inr (5, [.ref ma, .int (nI nt), .int (nI pp), .int (th), .ref mp, .int (rn), .int (ro), .int (to), .int (wt), .int (hn), .int (ho), .ref mt, .int (nI tl), .int (fa), .int (bk), .int (ba), .int (spt), .int (hre), .int (tok), .int (val), .ref mc, .ref ml, .ref mn, .int (nI se), .ref mk, .ref mg, .ref mh, .ref mq, .int (tn)])), (ma, .inl (E.2.1 1, 172, .inl (f)))]) rfl ?_
            refine v_st (st' := [.int (begTM rl th f (nI i) 6)]) rfl ?_
            refine v_iload (pc := 44) 0 dX5_pure_44 rfl ?_
            refine v_icmp_ne (pc := 46) 63 dX5_pure_46 (by decide) (fun c_46 => ?_) (fun c_46 => ?_)
            · skip
              refine v_iinc (pc := 63) (v := nI (i + 1)) (lv' := [(4, .int (nI (i + 1))), (2, .int (nI n)), (3, .int (le)), (0, .ref m0), (1, .int (x))]) 0 dX5_pure_63 rfl (nI_inc (i) 1) (by decide) rfl ?_
              refine v_goto (pc := 66) 20 dX5_pure_66 (by decide) ?_
              refine v_lv (lv' := [(4, .int (nI (i + 1))), (2, .int (nI n)), (3, .int (le)), (0, .ref m0), (1, .int (x))]) [0, 1, 2, 3, 4] rfl ?_
              refine ih_20 (i + 1) n le (by omega) ?_ ?_ ?_
              · omega
              · omega
              · simp only [dyK]; rw [if_neg (by simp only [agM, Bool.and_eq_true, decide_eq_true_eq]; exact fun q => c_46 q.2)]; exact h_20_2
            · skip
              refine v_iload_n (pc := 49) 1 dX5_pure_49 rfl rfl ?_
              suffices J_50 : V l E RX5 cX5_pure 5 (Option.some FieldType.int) "pure" ({ frames := 3, cells := 0, slots := 0, locals := 68 }) [(m0, .inr (5, [.ref ma, .int (nI nt), .int (nI pp), .int (th), .ref mp, .int (rn), .int (ro), .int (to), .int (wt), .int (hn), .int (ho), .ref mt, .int (nI tl), .int (fa), .int (bk), .int (ba), .int (spt), .int (hre), .int (tok), .int (val), .ref mc, .ref ml, .ref mn, .int (nI se), .ref mk, .ref mg, .ref mh, .ref mq, .int (tn)])), (ma, .inl (E.2.1 1, 172, .inl (f)))] 0 0 (Rt (some (.int (if ¬ x < 0 ∧ ¬ 1 < x then (if x = 0 then nI (dyK (fun s => agM rl th f s && decide (begTM rl th f (nI s) 6 = nI s)) 0 (2 ^ nt)).1 else (dyK (fun s => agM rl th f s && decide (begTM rl th f (nI s) 6 = nI s)) 0 (2 ^ nt)).2.1) else -1))) [(m0, .inr (5, [.ref ma, .int (nI nt), .int (nI pp), .int (th), .ref mp, .int (rn), .int (ro), .int (to), .int (wt), .int (hn), .int (ho), .ref mt, .int (nI tl), .int (fa), .int (bk), .int (ba), .int (spt), .int (hre), .int (tok), .int (val), .ref mc, .ref ml, .ref mn, .int (nI se), .ref mk, .ref mg, .ref mh, .ref mq, .int (tn)])), (ma, .inl (E.2.1 1, 172, .inl (f)))]) 0 0 59 [(4, .int (nI i)), (2, .int (nI n)), (3, .int (le)), (0, .ref m0), (1, .int (x))] [.int (if ¬ n = 0 then le else nI i)] [(m0, .inr (5, [.ref ma, .int (nI nt), .int (nI pp), .int (th), .ref mp, .int (rn), .int (ro), .int (to), .int (wt), .int (hn), .int (ho), .ref mt, .int (nI tl), .int (fa), .int (bk), .int (ba), .int (spt), .int (hre), .int (tok), .int (val), .ref mc, .ref ml, .ref mn, .int (nI se), .ref mk, .ref mg, .ref mh, .ref mq, .int (tn)])), (ma, .inl (E.2.1 1, 172, .inl (f)))] by
                refine v_ifN_ne (pc := 50) (a := n) 58 dX5_pure_50 (by decide) (by omega) (fun c_50 => ?_) (fun c_50 => ?_)
                · skip
                  refine v_iload_n (pc := 58) 2 dX5_pure_58 rfl rfl ?_
                  refine v_st ?_ J_50
                  rw [if_pos (show ¬ n = 0 from c_50)]
                · skip
                  refine v_iload (pc := 53) 0 dX5_pure_53 rfl ?_
                  refine v_goto (pc := 55) 59 dX5_pure_55 (by decide) ?_
                  refine v_st ?_ J_50
                  rw [if_neg (show ¬ (¬ n = 0) from (by first | exact c_50 | omega | exact fun q => q c_50))]
              refine v_istore_n (pc := 59) (lv' := [(3, .int (if ¬ n = 0 then le else nI i)), (4, .int (nI i)), (2, .int (nI n)), (0, .ref m0), (1, .int (x))]) dX5_pure_59 rfl (by decide) rfl ?_
              refine v_iinc (pc := 60) (v := nI (n + 1)) (lv' := [(2, .int (nI (n + 1))), (3, .int (if ¬ n = 0 then le else nI i)), (4, .int (nI i)), (0, .ref m0), (1, .int (x))]) 2 dX5_pure_60 rfl (nI_inc (n) 1) (by decide) rfl ?_
              refine v_iinc (pc := 63) (v := nI (i + 1)) (lv' := [(4, .int (nI (i + 1))), (2, .int (nI (n + 1))), (3, .int (if ¬ n = 0 then le else nI i)), (0, .ref m0), (1, .int (x))]) 2 dX5_pure_63 rfl (nI_inc (i) 1) (by decide) rfl ?_
              refine v_goto (pc := 66) 20 dX5_pure_66 (by decide) ?_
              refine v_lv (lv' := [(4, .int (nI (i + 1))), (2, .int (nI (n + 1))), (3, .int (if ¬ n = 0 then le else nI i)), (0, .ref m0), (1, .int (x))]) [0, 1, 2, 3, 4] rfl ?_
              refine ih_20 (i + 1) (n + 1) (if ¬ n = 0 then le else nI i) (by omega) ?_ ?_ ?_
              · omega
              · omega
              · simp only [dyK]; rw [if_pos (by simp only [agM, Bool.and_eq_true, decide_eq_true_eq]; exact ⟨c_35, c_46⟩)]; rw [← h_20_2.1, ← h_20_2.2]; exact ⟨rfl, (by by_cases q : n = 0 <;> simp [q])⟩
    refine v_lv (lv' := [(4, .int (nI 0)), (2, .int (nI 0)), (3, .int (-4)), (0, .ref m0), (1, .int (x))]) [0, 2, 1, 3, 4] rfl ?_
    refine loop_20 ((2 ^ nt - 0) + 1) 0 0 (-4) (Nat.lt_succ_self _) ?_ ?_ ?_
    · omega
    · omega
    · exact ⟨rfl, rfl⟩
  · skip
    refine v_iconst (pc := 10) (v := -1) dX5_pure_10 (by decide) ?_
    refine v_iret (pc := 11) dX5_pure_11 rfl ⟨rfl, rfl⟩ (Rt.i ?_)
    rw [if_neg c_7]
theorem c_X5_writers (l : Launch) (E : VE) (m0 : Nat) (ma : Nat) (mp : Nat) (mt : Nat) (mc : Nat) (ml : Nat) (mn : Nat) (mk : Nat) (mg : Nat) (mh : Nat) (mq : Nat) (nt : Nat) (pp : Nat) (rl : Nat) (tl : Nat) (se : Nat) (th : Int32) (rn : Int32) (ro : Int32) (to : Int32) (wt : Int32) (hn : Int32) (ho : Int32) (fa : Int32) (bk : Int32) (ba : Int32) (spt : Int32) (hre : Int32) (tok : Int32) (val : Int32) (tn : Int32) (f : Nat → Int32) (x : Int32) (n : Int32) (h_rl : rl ≤ 8) (h_38 : f 38 = nI rl) : Ct l E yX5_writers cX5_writers 5 (Option.some FieldType.int) 1 24 0 0 [.ref m0, .int (x), .int (n)] [(m0, .inr (5, [.ref ma, .int (nI nt), .int (nI pp), .int (th), .ref mp, .int (rn), .int (ro), .int (to), .int (wt), .int (hn), .int (ho), .ref mt, .int (nI tl), .int (fa), .int (bk), .int (ba), .int (spt), .int (hre), .int (tok), .int (val), .ref mc, .ref ml, .ref mn, .int (nI se), .ref mk, .ref mg, .ref mh, .ref mq, .int (tn)])), (ma, .inl (E.2.1 1, 172, .inl (f)))] (Rt (some (.int (wrtM rl th f x n))) [(m0, .inr (5, [.ref ma, .int (nI nt), .int (nI pp), .int (th), .ref mp, .int (rn), .int (ro), .int (to), .int (wt), .int (hn), .int (ho), .ref mt, .int (nI tl), .int (fa), .int (bk), .int (ba), .int (spt), .int (hre), .int (tok), .int (val), .ref mc, .ref ml, .ref mn, .int (nI se), .ref mk, .ref mg, .ref mh, .ref mq, .int (tn)])), (ma, .inl (E.2.1 1, 172, .inl (f)))]) := by
  refine Ct.of (own := RX5) (nm := "writers") (lv := [(0, .ref m0), (1, .int (x)), (2, .int (n))]) (by decide) rfl rfl (Nat.le_of_ble_eq_true rfl) rfl ?_
  refine v_iconst (pc := 0) (v := 0) dX5_writers_0 (by decide) ?_
  refine v_istore_n (pc := 1) (lv' := [(3, .int (0)), (0, .ref m0), (1, .int (x)), (2, .int (n))]) dX5_writers_1 rfl (by decide) rfl ?_
  refine v_iconst (pc := 2) (v := 0) dX5_writers_2 (by decide) ?_
  refine v_istore (pc := 3) (lv' := [(4, .int (0)), (3, .int (0)), (0, .ref m0), (1, .int (x)), (2, .int (n))]) dX5_writers_3 (by decide) rfl ?_
  have loop_5 : ∀ (D_5 : Nat) (i : Nat) (acc : Int32), rl - i < D_5 → (i ≤ rl) → (acc = orF (fun k => hpM th f x k && decide (f (6 + 4 * k + 1) = n)) (rO f) i) → V l E RX5 cX5_writers 5 (Option.some FieldType.int) "writers" ({ frames := 1, cells := 0, slots := 0, locals := 24 }) [(m0, .inr (5, [.ref ma, .int (nI nt), .int (nI pp), .int (th), .ref mp, .int (rn), .int (ro), .int (to), .int (wt), .int (hn), .int (ho), .ref mt, .int (nI tl), .int (fa), .int (bk), .int (ba), .int (spt), .int (hre), .int (tok), .int (val), .ref mc, .ref ml, .ref mn, .int (nI se), .ref mk, .ref mg, .ref mh, .ref mq, .int (tn)])), (ma, .inl (E.2.1 1, 172, .inl (f)))] 0 0 (Rt (some (.int (wrtM rl th f x n))) [(m0, .inr (5, [.ref ma, .int (nI nt), .int (nI pp), .int (th), .ref mp, .int (rn), .int (ro), .int (to), .int (wt), .int (hn), .int (ho), .ref mt, .int (nI tl), .int (fa), .int (bk), .int (ba), .int (spt), .int (hre), .int (tok), .int (val), .ref mc, .ref ml, .ref mn, .int (nI se), .ref mk, .ref mg, .ref mh, .ref mq, .int (tn)])), (ma, .inl (E.2.1 1, 172, .inl (f)))]) 0 0 5 [(4, .int (nI i)), (3, .int (acc)), (0, .ref m0), (1, .int (x)), (2, .int (n))] [] [(m0, .inr (5, [.ref ma, .int (nI nt), .int (nI pp), .int (th), .ref mp, .int (rn), .int (ro), .int (to), .int (wt), .int (hn), .int (ho), .ref mt, .int (nI tl), .int (fa), .int (bk), .int (ba), .int (spt), .int (hre), .int (tok), .int (val), .ref mc, .ref ml, .ref mn, .int (nI se), .ref mk, .ref mg, .ref mh, .ref mq, .int (tn)])), (ma, .inl (E.2.1 1, 172, .inl (f)))] := by
    intro D_5
    induction D_5 with
    | zero => intro i acc h; exact absurd h (Nat.not_lt_zero _)
    | succ D_5 ih_5 =>
      intro i acc hmu_5 h_5_0 h_5_1
      refine v_iload (pc := 5) 0 dX5_writers_5 rfl ?_
      refine v_aload_n (pc := 7) 2 dX5_writers_7 rfl rfl ?_
      refine gf_787 (pc := 8) 0 dX5_writers_8 rfl rfl ?_
      refine v_bipush (pc := 11) (v := 38) dX5_writers_11 (by decide) ?_
      refine v_ialdN (pc := 13) 1 1 (38) dX5_writers_13 rfl rfl rfl (by decide) (by decide) ?_
      refine v_st (st' := [.int (nI rl), .int (nI i)]) (by rw [h_38]) ?_
      refine v_cmpN_ge (pc := 14) (a := i) (b := rl) 64 dX5_writers_14 (by decide) (by omega) (by omega) (fun c_14 => ?_) (fun c_14 => ?_)
      · skip
        refine v_iload_n (pc := 64) 1 dX5_writers_64 rfl rfl ?_
        refine v_iret (pc := 65) dX5_writers_65 rfl ⟨rfl, rfl⟩ (Rt.i ?_)
        obtain rfl : i = rl := by omega
        rw [h_5_1]; rfl
      · skip
        refine v_iload_n (pc := 17) 1 dX5_writers_17 rfl rfl ?_
        refine v_aload_n (pc := 18) 2 dX5_writers_18 rfl rfl ?_
        refine v_iload (pc := 19) 0 dX5_writers_19 rfl ?_
        refine v_iload_n (pc := 21) 3 dX5_writers_21 rfl rfl ?_
        refine v_callV (pc := 22) (rest := [.int (acc)]) [0, 1] 0 lk_958 (c_X5_holds l E m0 ma mp mt mc ml mn mk mg mh mq nt pp tl se th rn ro to wt hn ho fa bk ba spt hre tok val tn f i x (by omega)) dX5_writers_22 rfl rfl (Nat.le_of_ble_eq_true rfl) (by decide) rfl rfl rfl (by decide) rfl (Rt.len rfl) (Rt.go ?_)
        refine v_w (ws' := [(m0, .inr (5, [.ref ma, .int (nI nt), .int (nI pp), .int (th), .ref mp, .int (rn), .int (ro), .int (to), .int (wt), .int (hn), .int (ho), .ref mt, .int (nI tl), .int (fa), .int (bk), .int (ba), .int (spt), .int (hre), .int (tok), .int (val), .ref mc, .ref ml, .ref mn, .int (nI se), .ref mk, .ref mg, .ref mh, .ref mq, .int (tn)])), (ma, .inl (E.2.1 1, 172, .inl (f)))]) rfl ?_
        refine v_st (st' := [.int (if hldM th f i x then 1 else 0), .int (acc)]) rfl ?_
        refine v_ifB_eq (pc := 25) 55 dX5_writers_25 (by decide) (fun c_25 => ?_) (fun c_25 => ?_)
        · skip
          refine v_iconst (pc := 55) (v := 0) dX5_writers_55 (by decide) ?_
          refine v_ior (pc := 56) dX5_writers_56 ?_
          refine v_istore_n (pc := 57) (lv' := [(3, .int ((acc) ||| (0))), (4, .int (nI i)), (0, .ref m0), (1, .int (x)), (2, .int (n))]) dX5_writers_57 rfl (by decide) rfl ?_
          refine v_iinc (pc := 58) (v := nI (i + 1)) (lv' := [(4, .int (nI (i + 1))), (3, .int ((acc) ||| (0))), (0, .ref m0), (1, .int (x)), (2, .int (n))]) 1 dX5_writers_58 rfl (nI_inc (i) 1) (by decide) rfl ?_
          refine v_goto (pc := 61) 5 dX5_writers_61 (by decide) ?_
          refine v_lv (lv' := [(4, .int (nI (i + 1))), (3, .int ((acc) ||| (0))), (0, .ref m0), (1, .int (x)), (2, .int (n))]) [0, 1, 2, 3, 4] rfl ?_
          refine ih_5 (i + 1) ((acc) ||| (0)) (by omega) ?_ ?_
          · omega
          · simp only [orF, hpM, decide_eq_true_eq, Bool.and_eq_true]; rw [if_neg (fun q => c_25 q.1), or0, h_5_1] <;> rfl
        · skip
          refine v_aload_n (pc := 28) 2 dX5_writers_28 rfl rfl ?_
          refine v_iload (pc := 29) 0 dX5_writers_29 rfl ?_
          refine v_callV (pc := 31) (rest := [.int (acc)]) [0, 1] 0 lk_1032 (c_X5_noteOf l E m0 ma mp mt mc ml mn mk mg mh mq nt pp tl se th rn ro to wt hn ho fa bk ba spt hre tok val tn f i (by omega)) dX5_writers_31 rfl rfl (Nat.le_of_ble_eq_true rfl) (by decide) rfl rfl rfl (by decide) rfl (Rt.len rfl) (Rt.go ?_)
          refine v_w (ws' := [(m0, .inr (5, [.ref ma, .int (nI nt), .int (nI pp), .int (th), .ref mp, .int (rn), .int (ro), .int (to), .int (wt), .int (hn), .int (ho), .ref mt, .int (nI tl), .int (fa), .int (bk), .int (ba), .int (spt), .int (hre), .int (tok), .int (val), .ref mc, .ref ml, .ref mn, .int (nI se), .ref mk, .ref mg, .ref mh, .ref mq, .int (tn)])), (ma, .inl (E.2.1 1, 172, .inl (f)))]) rfl ?_
          refine v_st (st' := [.int (f (6 + 4 * i + 1)), .int (acc)]) rfl ?_
          refine v_iload_n (pc := 34) 4 dX5_writers_34 rfl rfl ?_
          refine v_icmp_ne (pc := 35) 55 dX5_writers_35 (by decide) (fun c_35 => ?_) (fun c_35 => ?_)
          · skip
            refine v_iconst (pc := 55) (v := 0) dX5_writers_55 (by decide) ?_
            refine v_ior (pc := 56) dX5_writers_56 ?_
            refine v_istore_n (pc := 57) (lv' := [(3, .int ((acc) ||| (0))), (4, .int (nI i)), (0, .ref m0), (1, .int (x)), (2, .int (n))]) dX5_writers_57 rfl (by decide) rfl ?_
            refine v_iinc (pc := 58) (v := nI (i + 1)) (lv' := [(4, .int (nI (i + 1))), (3, .int ((acc) ||| (0))), (0, .ref m0), (1, .int (x)), (2, .int (n))]) 1 dX5_writers_58 rfl (nI_inc (i) 1) (by decide) rfl ?_
            refine v_goto (pc := 61) 5 dX5_writers_61 (by decide) ?_
            refine v_lv (lv' := [(4, .int (nI (i + 1))), (3, .int ((acc) ||| (0))), (0, .ref m0), (1, .int (x)), (2, .int (n))]) [0, 1, 2, 3, 4] rfl ?_
            refine ih_5 (i + 1) ((acc) ||| (0)) (by omega) ?_ ?_
            · omega
            · simp only [orF, hpM, decide_eq_true_eq, Bool.and_eq_true]; rw [if_neg (fun q => c_35 q.2), or0, h_5_1] <;> rfl
          · skip
            refine v_iconst (pc := 38) (v := 1) dX5_writers_38 (by decide) ?_
            refine v_aload_n (pc := 39) 2 dX5_writers_39 rfl rfl ?_
            refine gf_787 (pc := 40) 0 dX5_writers_40 rfl rfl ?_
            refine v_bipush (pc := 43) (v := 6) dX5_writers_43 (by decide) ?_
            refine v_iconst (pc := 45) (v := 4) dX5_writers_45 (by decide) ?_
            refine v_iload (pc := 46) 0 dX5_writers_46 rfl ?_
            refine v_imul (pc := 48) dX5_writers_48 ?_
            refine v_st (st' := [.int (nI (4 * i)), .int (6), .ref ma, .int (1), .int (acc)]) (congrArg (fun z => Value.int z :: _) (pk_mul 4 i)) ?_
            refine v_iadd (pc := 49) dX5_writers_49 ?_
            refine v_st (st' := [.int (nI (6 + (4 * i))), .ref ma, .int (1), .int (acc)]) (congrArg (fun z => Value.int z :: _) (nI_add 6 (4 * i))) ?_
            refine v_ialdN (pc := 50) 1 1 (6 + (4 * i)) dX5_writers_50 rfl rfl rfl (by omega) (by decide) ?_
            refine v_ishl (pc := 51) dX5_writers_51 ?_
            refine v_goto (pc := 52) 56 dX5_writers_52 (by decide) ?_
            refine v_ior (pc := 56) dX5_writers_56 ?_
            refine v_istore_n (pc := 57) (lv' := [(3, .int ((acc) ||| ((1 : Int32) <<< ((f (6 + (4 * i))) &&& 31)))), (4, .int (nI i)), (0, .ref m0), (1, .int (x)), (2, .int (n))]) dX5_writers_57 rfl (by decide) rfl ?_
            refine v_iinc (pc := 58) (v := nI (i + 1)) (lv' := [(4, .int (nI (i + 1))), (3, .int ((acc) ||| ((1 : Int32) <<< ((f (6 + (4 * i))) &&& 31)))), (0, .ref m0), (1, .int (x)), (2, .int (n))]) 1 dX5_writers_58 rfl (nI_inc (i) 1) (by decide) rfl ?_
            refine v_goto (pc := 61) 5 dX5_writers_61 (by decide) ?_
            refine v_lv (lv' := [(4, .int (nI (i + 1))), (3, .int ((acc) ||| ((1 : Int32) <<< ((f (6 + (4 * i))) &&& 31)))), (0, .ref m0), (1, .int (x)), (2, .int (n))]) [0, 1, 2, 3, 4] rfl ?_
            refine ih_5 (i + 1) ((acc) ||| ((1 : Int32) <<< ((f (6 + (4 * i))) &&& 31))) (by omega) ?_ ?_
            · omega
            · simp only [orF, hpM, decide_eq_true_eq, Bool.and_eq_true]; rw [if_pos ⟨c_25, c_35⟩, h_5_1] <;> rfl
  refine v_lv (lv' := [(4, .int (nI 0)), (3, .int (0)), (0, .ref m0), (1, .int (x)), (2, .int (n))]) [0, 1, 2, 3, 4] rfl ?_
  refine loop_5 ((rl - 0) + 1) 0 0 (Nat.lt_succ_self _) ?_ ?_
  · omega
  · rfl
theorem c_X5_wrote (l : Launch) (E : VE) (m0 : Nat) (ma : Nat) (mp : Nat) (mt : Nat) (mc : Nat) (ml : Nat) (mn : Nat) (mk : Nat) (mg : Nat) (mh : Nat) (mq : Nat) (nt : Nat) (pp : Nat) (rl : Nat) (tl : Nat) (se : Nat) (th : Int32) (rn : Int32) (ro : Int32) (to : Int32) (wt : Int32) (hn : Int32) (ho : Int32) (fa : Int32) (bk : Int32) (ba : Int32) (spt : Int32) (hre : Int32) (tok : Int32) (val : Int32) (tn : Int32) (f : Nat → Int32) (x : Int32) (n : Int32) (h_rl : rl ≤ 8) (h_38 : f 38 = nI rl) (h_nt : nt ≤ 6) : Ct l E yX5_wrote cX5_wrote 3 (Option.some FieldType.int) 2 48 0 0 [.ref m0, .int (x), .int (n)] [(m0, .inr (5, [.ref ma, .int (nI nt), .int (nI pp), .int (th), .ref mp, .int (rn), .int (ro), .int (to), .int (wt), .int (hn), .int (ho), .ref mt, .int (nI tl), .int (fa), .int (bk), .int (ba), .int (spt), .int (hre), .int (tok), .int (val), .ref mc, .ref ml, .ref mn, .int (nI se), .ref mk, .ref mg, .ref mh, .ref mq, .int (tn)])), (ma, .inl (E.2.1 1, 172, .inl (f)))] (Rt (some (.int (if ¬ x < 0 ∧ ¬ nI (2 ^ nt - 1) < x then (if okN n nt then wrtM rl th f x n else -1) else -1))) [(m0, .inr (5, [.ref ma, .int (nI nt), .int (nI pp), .int (th), .ref mp, .int (rn), .int (ro), .int (to), .int (wt), .int (hn), .int (ho), .ref mt, .int (nI tl), .int (fa), .int (bk), .int (ba), .int (spt), .int (hre), .int (tok), .int (val), .ref mc, .ref ml, .ref mn, .int (nI se), .ref mk, .ref mg, .ref mh, .ref mq, .int (tn)])), (ma, .inl (E.2.1 1, 172, .inl (f)))]) := by
  refine Ct.of (own := RX5) (nm := "wrote") (lv := [(0, .ref m0), (1, .int (x)), (2, .int (n))]) (by decide) rfl rfl (Nat.le_of_ble_eq_true rfl) rfl ?_
  refine v_aload_n (pc := 0) 0 dX5_wrote_0 rfl rfl ?_
  refine v_iload_n (pc := 1) 1 dX5_wrote_1 rfl rfl ?_
  refine v_callV (pc := 2) (rest := []) [0] 0 lk_1020 (c_X5_isSet l E m0 ma mp mt mc ml mn mk mg mh mq nt pp tl se th rn ro to wt hn ho fa bk ba spt hre tok val tn x (by first | assumption | omega)) dX5_wrote_2 rfl rfl (Nat.le_of_ble_eq_true rfl) (by decide) rfl rfl rfl (by decide) rfl (Rt.len rfl) (Rt.go ?_)
  refine v_w (ws' := [(m0, .inr (5, [.ref ma, .int (nI nt), .int (nI pp), .int (th), .ref mp, .int (rn), .int (ro), .int (to), .int (wt), .int (hn), .int (ho), .ref mt, .int (nI tl), .int (fa), .int (bk), .int (ba), .int (spt), .int (hre), .int (tok), .int (val), .ref mc, .ref ml, .ref mn, .int (nI se), .ref mk, .ref mg, .ref mh, .ref mq, .int (tn)])), (ma, .inl (E.2.1 1, 172, .inl (f)))]) rfl ?_
  refine v_st (st' := [.int (if ¬ x < 0 ∧ ¬ nI (2 ^ nt - 1) < x then 1 else 0)]) rfl ?_
  refine v_ifB_eq (pc := 5) 25 dX5_wrote_5 (by decide) (fun c_5 => ?_) (fun c_5 => ?_)
  · skip
    refine v_iconst (pc := 25) (v := -1) dX5_wrote_25 (by decide) ?_
    refine v_iret (pc := 26) dX5_wrote_26 rfl ⟨rfl, rfl⟩ (Rt.i ?_)
    first | simp only [if_neg c_5] | rfl
  · skip
    refine v_aload_n (pc := 8) 0 dX5_wrote_8 rfl rfl ?_
    refine v_iload_n (pc := 9) 2 dX5_wrote_9 rfl rfl ?_
    refine v_callV (pc := 10) (rest := []) [0] 0 lk_966 (c_X5_isNote l E m0 ma mp mt mc ml mn mk mg mh mq nt pp tl se th rn ro to wt hn ho fa bk ba spt hre tok val tn n (by first | assumption | omega)) dX5_wrote_10 rfl rfl (Nat.le_of_ble_eq_true rfl) (by decide) rfl rfl rfl (by decide) rfl (Rt.len rfl) (Rt.go ?_)
    refine v_w (ws' := [(m0, .inr (5, [.ref ma, .int (nI nt), .int (nI pp), .int (th), .ref mp, .int (rn), .int (ro), .int (to), .int (wt), .int (hn), .int (ho), .ref mt, .int (nI tl), .int (fa), .int (bk), .int (ba), .int (spt), .int (hre), .int (tok), .int (val), .ref mc, .ref ml, .ref mn, .int (nI se), .ref mk, .ref mg, .ref mh, .ref mq, .int (tn)])), (ma, .inl (E.2.1 1, 172, .inl (f)))]) rfl ?_
    refine v_st (st' := [.int (if okN n nt then 1 else 0)]) rfl ?_
    refine v_ifB_eq (pc := 13) 25 dX5_wrote_13 (by decide) (fun c_13 => ?_) (fun c_13 => ?_)
    · skip
      refine v_iconst (pc := 25) (v := -1) dX5_wrote_25 (by decide) ?_
      refine v_iret (pc := 26) dX5_wrote_26 rfl ⟨rfl, rfl⟩ (Rt.i ?_)
      first | simp only [if_pos c_5, if_neg c_13] | rfl
    · skip
      refine v_aload_n (pc := 16) 0 dX5_wrote_16 rfl rfl ?_
      refine v_iload_n (pc := 17) 1 dX5_wrote_17 rfl rfl ?_
      refine v_iload_n (pc := 18) 2 dX5_wrote_18 rfl rfl ?_
      refine v_callV (pc := 19) (rest := []) [0, 1] 0 lk_1093 (c_X5_writers l E m0 ma mp mt mc ml mn mk mg mh mq nt pp rl tl se th rn ro to wt hn ho fa bk ba spt hre tok val tn f x n (by first | assumption | omega) (by first | assumption | omega)) dX5_wrote_19 rfl rfl (Nat.le_of_ble_eq_true rfl) (by decide) rfl rfl rfl (by decide) rfl (Rt.len rfl) (Rt.go ?_)
      refine v_w (ws' := [(m0, .inr (5, [.ref ma, .int (nI nt), .int (nI pp), .int (th), .ref mp, .int (rn), .int (ro), .int (to), .int (wt), .int (hn), .int (ho), .ref mt, .int (nI tl), .int (fa), .int (bk), .int (ba), .int (spt), .int (hre), .int (tok), .int (val), .ref mc, .ref ml, .ref mn, .int (nI se), .ref mk, .ref mg, .ref mh, .ref mq, .int (tn)])), (ma, .inl (E.2.1 1, 172, .inl (f)))]) rfl ?_
      refine v_st (st' := [.int (wrtM rl th f x n)]) rfl ?_
      refine v_goto (pc := 22) 26 dX5_wrote_22 (by decide) ?_
      refine v_iret (pc := 26) dX5_wrote_26 rfl ⟨rfl, rfl⟩ (Rt.i ?_)
      first | simp only [if_pos c_5, if_pos c_13] | rfl
theorem c_X5_could (l : Launch) (E : VE) (m0 : Nat) (ma : Nat) (mp : Nat) (mt : Nat) (mc : Nat) (ml : Nat) (mn : Nat) (mk : Nat) (mg : Nat) (mh : Nat) (mq : Nat) (nt : Nat) (pp : Nat) (rl : Nat) (tl : Nat) (se : Nat) (th : Int32) (rn : Int32) (ro : Int32) (to : Int32) (wt : Int32) (hn : Int32) (ho : Int32) (fa : Int32) (bk : Int32) (ba : Int32) (spt : Int32) (hre : Int32) (tok : Int32) (val : Int32) (tn : Int32) (f : Nat → Int32) (n : Int32) (h_rl : rl ≤ 8) (h_38 : f 38 = nI rl) (h_nt : nt ≤ 6) : Ct l E yX5_could cX5_could 4 (Option.some FieldType.int) 3 68 0 0 [.ref m0, .int (n)] [(m0, .inr (5, [.ref ma, .int (nI nt), .int (nI pp), .int (th), .ref mp, .int (rn), .int (ro), .int (to), .int (wt), .int (hn), .int (ho), .ref mt, .int (nI tl), .int (fa), .int (bk), .int (ba), .int (spt), .int (hre), .int (tok), .int (val), .ref mc, .ref ml, .ref mn, .int (nI se), .ref mk, .ref mg, .ref mh, .ref mq, .int (tn)])), (ma, .inl (E.2.1 1, 172, .inl (f)))] (Rt (some (.int (if okN n nt then couM (agM rl th f) (fun s => wrtM rl th f (nI s) n) (2 ^ nt) else -1))) [(m0, .inr (5, [.ref ma, .int (nI nt), .int (nI pp), .int (th), .ref mp, .int (rn), .int (ro), .int (to), .int (wt), .int (hn), .int (ho), .ref mt, .int (nI tl), .int (fa), .int (bk), .int (ba), .int (spt), .int (hre), .int (tok), .int (val), .ref mc, .ref ml, .ref mn, .int (nI se), .ref mk, .ref mg, .ref mh, .ref mq, .int (tn)])), (ma, .inl (E.2.1 1, 172, .inl (f)))]) := by
  refine Ct.of (own := RX5) (nm := "could") (lv := [(0, .ref m0), (1, .int (n))]) (by decide) rfl rfl (Nat.le_of_ble_eq_true rfl) rfl ?_
  have h64 := p64 h_nt
  have h0p := p1 nt
  refine v_aload_n (pc := 0) 0 dX5_could_0 rfl rfl ?_
  refine v_iload_n (pc := 1) 1 dX5_could_1 rfl rfl ?_
  refine v_callV (pc := 2) (rest := []) [0] 0 lk_966 (c_X5_isNote l E m0 ma mp mt mc ml mn mk mg mh mq nt pp tl se th rn ro to wt hn ho fa bk ba spt hre tok val tn n (by first | assumption | omega)) dX5_could_2 rfl rfl (Nat.le_of_ble_eq_true rfl) (by decide) rfl rfl rfl (by decide) rfl (Rt.len rfl) (Rt.go ?_)
  refine v_w (ws' := [(m0, .inr (5, [.ref ma, .int (nI nt), .int (nI pp), .int (th), .ref mp, .int (rn), .int (ro), .int (to), .int (wt), .int (hn), .int (ho), .ref mt, .int (nI tl), .int (fa), .int (bk), .int (ba), .int (spt), .int (hre), .int (tok), .int (val), .ref mc, .ref ml, .ref mn, .int (nI se), .ref mk, .ref mg, .ref mh, .ref mq, .int (tn)])), (ma, .inl (E.2.1 1, 172, .inl (f)))]) rfl ?_
  refine v_st (st' := [.int (if okN n nt then 1 else 0)]) rfl ?_
  refine v_ifB_ne (pc := 5) 10 dX5_could_5 (by decide) (fun c_5 => ?_) (fun c_5 => ?_)
  · skip
    refine v_iconst (pc := 10) (v := 0) dX5_could_10 (by decide) ?_
    refine v_istore_n (pc := 11) (lv' := [(2, .int (0)), (0, .ref m0), (1, .int (n))]) dX5_could_11 rfl (by decide) rfl ?_
    refine v_iconst (pc := 12) (v := 0) dX5_could_12 (by decide) ?_
    refine v_istore_n (pc := 13) (lv' := [(3, .int (0)), (2, .int (0)), (0, .ref m0), (1, .int (n))]) dX5_could_13 rfl (by decide) rfl ?_
    have loop_14 : ∀ (D_14 : Nat) (i : Nat) (a : Int32), 2 ^ nt - i < D_14 → (i ≤ 2 ^ nt) → (a = couM (agM rl th f) (fun s => wrtM rl th f (nI s) n) i) → V l E RX5 cX5_could 4 (Option.some FieldType.int) "could" ({ frames := 3, cells := 0, slots := 0, locals := 68 }) [(m0, .inr (5, [.ref ma, .int (nI nt), .int (nI pp), .int (th), .ref mp, .int (rn), .int (ro), .int (to), .int (wt), .int (hn), .int (ho), .ref mt, .int (nI tl), .int (fa), .int (bk), .int (ba), .int (spt), .int (hre), .int (tok), .int (val), .ref mc, .ref ml, .ref mn, .int (nI se), .ref mk, .ref mg, .ref mh, .ref mq, .int (tn)])), (ma, .inl (E.2.1 1, 172, .inl (f)))] 0 0 (Rt (some (.int (if okN n nt then couM (agM rl th f) (fun s => wrtM rl th f (nI s) n) (2 ^ nt) else -1))) [(m0, .inr (5, [.ref ma, .int (nI nt), .int (nI pp), .int (th), .ref mp, .int (rn), .int (ro), .int (to), .int (wt), .int (hn), .int (ho), .ref mt, .int (nI tl), .int (fa), .int (bk), .int (ba), .int (spt), .int (hre), .int (tok), .int (val), .ref mc, .ref ml, .ref mn, .int (nI se), .ref mk, .ref mg, .ref mh, .ref mq, .int (tn)])), (ma, .inl (E.2.1 1, 172, .inl (f)))]) 0 0 14 [(3, .int (nI i)), (2, .int (a)), (0, .ref m0), (1, .int (n))] [] [(m0, .inr (5, [.ref ma, .int (nI nt), .int (nI pp), .int (th), .ref mp, .int (rn), .int (ro), .int (to), .int (wt), .int (hn), .int (ho), .ref mt, .int (nI tl), .int (fa), .int (bk), .int (ba), .int (spt), .int (hre), .int (tok), .int (val), .ref mc, .ref ml, .ref mn, .int (nI se), .ref mk, .ref mg, .ref mh, .ref mq, .int (tn)])), (ma, .inl (E.2.1 1, 172, .inl (f)))] := by
      intro D_14
      induction D_14 with
      | zero => intro i a h; exact absurd h (Nat.not_lt_zero _)
      | succ D_14 ih_14 =>
        intro i a hmu_14 h_14_0 h_14_1
        refine v_iload_n (pc := 14) 0 dX5_could_14 rfl rfl ?_
        refine v_aload_n (pc := 15) 2 dX5_could_15 rfl rfl ?_
        refine v_callV (pc := 16) (rest := [.int (nI i)]) [0] 0 lk_1024 (c_X5_sets l E m0 ma mp mt mc ml mn mk mg mh mq nt pp tl se th rn ro to wt hn ho fa bk ba spt hre tok val tn (by first | assumption | omega)) dX5_could_16 rfl rfl (Nat.le_of_ble_eq_true rfl) (by decide) rfl rfl rfl (by decide) rfl (Rt.len rfl) (Rt.go ?_)
        refine v_w (ws' := [(m0, .inr (5, [.ref ma, .int (nI nt), .int (nI pp), .int (th), .ref mp, .int (rn), .int (ro), .int (to), .int (wt), .int (hn), .int (ho), .ref mt, .int (nI tl), .int (fa), .int (bk), .int (ba), .int (spt), .int (hre), .int (tok), .int (val), .ref mc, .ref ml, .ref mn, .int (nI se), .ref mk, .ref mg, .ref mh, .ref mq, .int (tn)])), (ma, .inl (E.2.1 1, 172, .inl (f)))]) rfl ?_
        refine v_st (st' := [.int (nI (2 ^ nt)), .int (nI i)]) rfl ?_
        refine v_cmpN_ge (pc := 19) (a := i) (b := 2 ^ nt) 49 dX5_could_19 (by decide) (by omega) (by omega) (fun c_19 => ?_) (fun c_19 => ?_)
        · skip
          refine v_iload_n (pc := 49) 1 dX5_could_49 rfl rfl ?_
          refine v_iret (pc := 50) dX5_could_50 rfl ⟨rfl, rfl⟩ (Rt.i ?_)
          obtain rfl : i = 2 ^ nt := by omega
          rw [if_pos c_5]; exact h_14_1
        · skip
          refine v_iload_n (pc := 22) 1 dX5_could_22 rfl rfl ?_
          refine v_aload_n (pc := 23) 2 dX5_could_23 rfl rfl ?_
          refine v_iload_n (pc := 24) 0 dX5_could_24 rfl rfl ?_
          refine v_callV (pc := 25) (rest := [.int (a)]) [0, 1] 0 lk_1057 (c_X5_agrees l E m0 ma mp mt mc ml mn mk mg mh mq nt pp rl tl se th rn ro to wt hn ho fa bk ba spt hre tok val tn f (nI i) (by first | assumption | omega) (by first | assumption | omega)) dX5_could_25 rfl rfl (Nat.le_of_ble_eq_true rfl) (by decide) rfl rfl rfl (by decide) rfl (Rt.len rfl) (Rt.go ?_)
          refine v_w (ws' := [(m0, .inr (5, [.ref ma, .int (nI nt), .int (nI pp), .int (th), .ref mp, .int (rn), .int (ro), .int (to), .int (wt), .int (hn), .int (ho), .ref mt, .int (nI tl), .int (fa), .int (bk), .int (ba), .int (spt), .int (hre), .int (tok), .int (val), .ref mc, .ref ml, .ref mn, .int (nI se), .ref mk, .ref mg, .ref mh, .ref mq, .int (tn)])), (ma, .inl (E.2.1 1, 172, .inl (f)))]) rfl ?_
          refine v_st (st' := [.int (if outM rl th f (nI i) = (nI i) then 1 else 0), .int (a)]) rfl ?_
          refine v_ifB_eq (pc := 28) 40 dX5_could_28 (by decide) (fun c_28 => ?_) (fun c_28 => ?_)
          · skip
            refine v_iconst (pc := 40) (v := 0) dX5_could_40 (by decide) ?_
            refine v_ior (pc := 41) dX5_could_41 ?_
            refine v_istore_n (pc := 42) (lv' := [(2, .int ((a) ||| (0))), (3, .int (nI i)), (0, .ref m0), (1, .int (n))]) dX5_could_42 rfl (by decide) rfl ?_
            refine v_iinc (pc := 43) (v := nI (i + 1)) (lv' := [(3, .int (nI (i + 1))), (2, .int ((a) ||| (0))), (0, .ref m0), (1, .int (n))]) 1 dX5_could_43 rfl (nI_inc (i) 1) (by decide) rfl ?_
            refine v_goto (pc := 46) 14 dX5_could_46 (by decide) ?_
            refine v_lv (lv' := [(3, .int (nI (i + 1))), (2, .int ((a) ||| (0))), (0, .ref m0), (1, .int (n))]) [0, 1, 2, 3] rfl ?_
            refine ih_14 (i + 1) ((a) ||| (0)) (by omega) ?_ ?_
            · omega
            · simp only [couM]; rw [← h_14_1, if_neg (by simpa [agM] using c_28)]
          · skip
            refine v_aload_n (pc := 31) 2 dX5_could_31 rfl rfl ?_
            refine v_iload_n (pc := 32) 0 dX5_could_32 rfl rfl ?_
            refine v_iload_n (pc := 33) 3 dX5_could_33 rfl rfl ?_
            refine v_callV (pc := 34) (rest := [.int (a)]) [0, 1] 0 lk_1093 (c_X5_writers l E m0 ma mp mt mc ml mn mk mg mh mq nt pp rl tl se th rn ro to wt hn ho fa bk ba spt hre tok val tn f (nI i) n (by first | assumption | omega) (by first | assumption | omega)) dX5_could_34 rfl rfl (Nat.le_of_ble_eq_true rfl) (by decide) rfl rfl rfl (by decide) rfl (Rt.len rfl) (Rt.go ?_)
            refine v_w (ws' := [(m0, .inr (5, [.ref ma, .int (nI nt), .int (nI pp), .int (th), .ref mp, .int (rn), .int (ro), .int (to), .int (wt), .int (hn), .int (ho), .ref mt, .int (nI tl), .int (fa), .int (bk), .int (ba), .int (spt), .int (hre), .int (tok), .int (val), .ref mc, .ref ml, .ref mn, .int (nI se), .ref mk, .ref mg, .ref mh, .ref mq, .int (tn)])), (ma, .inl (E.2.1 1, 172, .inl (f)))]) rfl ?_
            refine v_st (st' := [.int (wrtM rl th f (nI i) n), .int (a)]) rfl ?_
            refine v_goto (pc := 37) 41 dX5_could_37 (by decide) ?_
            refine v_ior (pc := 41) dX5_could_41 ?_
            refine v_istore_n (pc := 42) (lv' := [(2, .int ((a) ||| (wrtM rl th f (nI i) n))), (3, .int (nI i)), (0, .ref m0), (1, .int (n))]) dX5_could_42 rfl (by decide) rfl ?_
            refine v_iinc (pc := 43) (v := nI (i + 1)) (lv' := [(3, .int (nI (i + 1))), (2, .int ((a) ||| (wrtM rl th f (nI i) n))), (0, .ref m0), (1, .int (n))]) 1 dX5_could_43 rfl (nI_inc (i) 1) (by decide) rfl ?_
            refine v_goto (pc := 46) 14 dX5_could_46 (by decide) ?_
            refine v_lv (lv' := [(3, .int (nI (i + 1))), (2, .int ((a) ||| (wrtM rl th f (nI i) n))), (0, .ref m0), (1, .int (n))]) [0, 1, 2, 3] rfl ?_
            refine ih_14 (i + 1) ((a) ||| (wrtM rl th f (nI i) n)) (by omega) ?_ ?_
            · omega
            · simp only [couM]; rw [← h_14_1, if_pos (by simpa [agM] using c_28)]
    refine v_lv (lv' := [(3, .int (nI 0)), (2, .int (0)), (0, .ref m0), (1, .int (n))]) [0, 1, 2, 3] rfl ?_
    refine loop_14 ((2 ^ nt - 0) + 1) 0 0 (Nat.lt_succ_self _) ?_ ?_
    · omega
    · rfl
  · skip
    refine v_iconst (pc := 8) (v := -1) dX5_could_8 (by decide) ?_
    refine v_iret (pc := 9) dX5_could_9 rfl ⟨rfl, rfl⟩ (Rt.i ?_)
    first | simp only [if_neg c_5] | rfl
theorem c_X5_bitsOf (l : Launch) (E : VE) (x : Int32) : Ct l E yX5_bitsOf cX5_bitsOf 3 (Option.some FieldType.int) 0 0 0 0 [.int (x)] [] (Rt (some (.int (btsK x 8))) []) := by
  refine Ct.of (own := RX5) (nm := "bitsOf") (lv := [(0, .int (x))]) (by decide) rfl rfl (Nat.le_of_ble_eq_true rfl) rfl ?_
  refine v_iconst (pc := 0) (v := 0) dX5_bitsOf_0 (by decide) ?_
  refine v_istore_n (pc := 1) (lv' := [(1, .int (0)), (0, .int (x))]) dX5_bitsOf_1 rfl (by decide) rfl ?_
  refine v_iconst (pc := 2) (v := 0) dX5_bitsOf_2 (by decide) ?_
  refine v_istore_n (pc := 3) (lv' := [(2, .int (0)), (1, .int (0)), (0, .int (x))]) dX5_bitsOf_3 rfl (by decide) rfl ?_
  have loop_4 : ∀ (D_4 : Nat) (i : Nat) (a : Int32), 8 - i < D_4 → (i ≤ 8) → (a = btsK x i) → V l E RX5 cX5_bitsOf 3 (Option.some FieldType.int) "bitsOf" ({ frames := 0, cells := 0, slots := 0, locals := 0 }) [] 0 0 (Rt (some (.int (btsK x 8))) []) 0 0 4 [(2, .int (nI i)), (1, .int (a)), (0, .int (x))] [] [] := by
    intro D_4
    induction D_4 with
    | zero => intro i a h; exact absurd h (Nat.not_lt_zero _)
    | succ D_4 ih_4 =>
      intro i a hmu_4 h_4_0 h_4_1
      refine v_iload_n (pc := 4) 0 dX5_bitsOf_4 rfl rfl ?_
      refine v_bipush (pc := 5) (v := 8) dX5_bitsOf_5 (by decide) ?_
      refine v_cmpN_ge (pc := 7) (a := i) (b := 8) 24 dX5_bitsOf_7 (by decide) (by omega) (by omega) (fun c_7 => ?_) (fun c_7 => ?_)
      · skip
        refine v_iload_n (pc := 24) 1 dX5_bitsOf_24 rfl rfl ?_
        refine v_iret (pc := 25) dX5_bitsOf_25 rfl ⟨rfl, rfl⟩ (Rt.i ?_)
        obtain rfl : i = 8 := by omega
        exact h_4_1
      · skip
        refine v_iload_n (pc := 10) 1 dX5_bitsOf_10 rfl rfl ?_
        refine v_iload_n (pc := 11) 2 dX5_bitsOf_11 rfl rfl ?_
        refine v_iload_n (pc := 12) 0 dX5_bitsOf_12 rfl rfl ?_
        refine v_ishr (pc := 13) dX5_bitsOf_13 ?_
        refine v_iconst (pc := 14) (v := 1) dX5_bitsOf_14 (by decide) ?_
        refine v_iand (pc := 15) dX5_bitsOf_15 ?_
        refine v_iadd (pc := 16) dX5_bitsOf_16 ?_
        refine v_istore_n (pc := 17) (lv' := [(1, .int ((a) + (((x) >>> ((nI i) &&& 31)) &&& (1)))), (2, .int (nI i)), (0, .int (x))]) dX5_bitsOf_17 rfl (by decide) rfl ?_
        refine v_iinc (pc := 18) (v := nI (i + 1)) (lv' := [(2, .int (nI (i + 1))), (1, .int ((a) + (((x) >>> ((nI i) &&& 31)) &&& (1)))), (0, .int (x))]) 1 dX5_bitsOf_18 rfl (nI_inc (i) 1) (by decide) rfl ?_
        refine v_goto (pc := 21) 4 dX5_bitsOf_21 (by decide) ?_
        refine v_lv (lv' := [(2, .int (nI (i + 1))), (1, .int ((a) + (((x) >>> ((nI i) &&& 31)) &&& (1)))), (0, .int (x))]) [0, 1, 2] rfl ?_
        refine ih_4 (i + 1) ((a) + (((x) >>> ((nI i) &&& 31)) &&& (1))) (by omega) ?_ ?_
        · omega
        · rw [h_4_1]; rfl
  refine v_lv (lv' := [(2, .int (nI 0)), (1, .int (0)), (0, .int (x))]) [0, 1, 2] rfl ?_
  refine loop_4 ((8 - 0) + 1) 0 0 (Nat.lt_succ_self _) ?_ ?_
  · omega
  · rfl
theorem c_X5_canBe (l : Launch) (E : VE) (m0 : Nat) (ma : Nat) (mp : Nat) (mt : Nat) (mc : Nat) (ml : Nat) (mn : Nat) (mk : Nat) (mg : Nat) (mh : Nat) (mq : Nat) (nt : Nat) (pp : Nat) (rl : Nat) (tl : Nat) (se : Nat) (th : Int32) (rn : Int32) (ro : Int32) (to : Int32) (wt : Int32) (hn : Int32) (ho : Int32) (fa : Int32) (bk : Int32) (ba : Int32) (spt : Int32) (hre : Int32) (tok : Int32) (val : Int32) (tn : Int32) (f : Nat → Int32) (n : Int32) (P : Prop) (dP : Decidable P) (h_rl : rl ≤ 8) (h_38 : f 38 = nI rl) (h_nt : nt ≤ 6) : Ct l E yX5_canBe cX5_canBe 5 (Option.some FieldType.boolean) 3 68 0 0 [.ref m0, .int (n), .int (if P then 1 else 0)] [(m0, .inr (5, [.ref ma, .int (nI nt), .int (nI pp), .int (th), .ref mp, .int (rn), .int (ro), .int (to), .int (wt), .int (hn), .int (ho), .ref mt, .int (nI tl), .int (fa), .int (bk), .int (ba), .int (spt), .int (hre), .int (tok), .int (val), .ref mc, .ref ml, .ref mn, .int (nI se), .ref mk, .ref mg, .ref mh, .ref mq, .int (tn)])), (ma, .inl (E.2.1 1, 172, .inl (f)))] (Rt (some (.int (if anyB (cbQ rl th f n P) (2 ^ nt) = true then 1 else 0))) [(m0, .inr (5, [.ref ma, .int (nI nt), .int (nI pp), .int (th), .ref mp, .int (rn), .int (ro), .int (to), .int (wt), .int (hn), .int (ho), .ref mt, .int (nI tl), .int (fa), .int (bk), .int (ba), .int (spt), .int (hre), .int (tok), .int (val), .ref mc, .ref ml, .ref mn, .int (nI se), .ref mk, .ref mg, .ref mh, .ref mq, .int (tn)])), (ma, .inl (E.2.1 1, 172, .inl (f)))]) := by
  refine Ct.of (own := RX5) (nm := "canBe") (lv := [(0, .ref m0), (1, .int (n)), (2, .int (if P then 1 else 0))]) (by decide) rfl rfl (Nat.le_of_ble_eq_true rfl) rfl ?_
  have h64 := p64 h_nt
  have h0p := p1 nt
  refine v_iconst (pc := 0) (v := 0) dX5_canBe_0 (by decide) ?_
  refine v_istore_n (pc := 1) (lv' := [(3, .int (0)), (0, .ref m0), (1, .int (n)), (2, .int (if P then 1 else 0))]) dX5_canBe_1 rfl (by decide) rfl ?_
  refine v_iconst (pc := 2) (v := 0) dX5_canBe_2 (by decide) ?_
  refine v_istore (pc := 3) (lv' := [(4, .int (0)), (3, .int (0)), (0, .ref m0), (1, .int (n)), (2, .int (if P then 1 else 0))]) dX5_canBe_3 (by decide) rfl ?_
  have loop_5 : ∀ (D_5 : Nat) (i : Nat) (cb : Bool), 2 ^ nt - i < D_5 → (i ≤ 2 ^ nt) → (cb = anyB (cbQ rl th f n P) i) → V l E RX5 cX5_canBe 5 (Option.some FieldType.boolean) "canBe" ({ frames := 3, cells := 0, slots := 0, locals := 68 }) [(m0, .inr (5, [.ref ma, .int (nI nt), .int (nI pp), .int (th), .ref mp, .int (rn), .int (ro), .int (to), .int (wt), .int (hn), .int (ho), .ref mt, .int (nI tl), .int (fa), .int (bk), .int (ba), .int (spt), .int (hre), .int (tok), .int (val), .ref mc, .ref ml, .ref mn, .int (nI se), .ref mk, .ref mg, .ref mh, .ref mq, .int (tn)])), (ma, .inl (E.2.1 1, 172, .inl (f)))] 0 0 (Rt (some (.int (if anyB (cbQ rl th f n P) (2 ^ nt) = true then 1 else 0))) [(m0, .inr (5, [.ref ma, .int (nI nt), .int (nI pp), .int (th), .ref mp, .int (rn), .int (ro), .int (to), .int (wt), .int (hn), .int (ho), .ref mt, .int (nI tl), .int (fa), .int (bk), .int (ba), .int (spt), .int (hre), .int (tok), .int (val), .ref mc, .ref ml, .ref mn, .int (nI se), .ref mk, .ref mg, .ref mh, .ref mq, .int (tn)])), (ma, .inl (E.2.1 1, 172, .inl (f)))]) 0 0 5 [(4, .int (nI i)), (3, .int (if cb = true then 1 else 0)), (0, .ref m0), (1, .int (n)), (2, .int (if P then 1 else 0))] [] [(m0, .inr (5, [.ref ma, .int (nI nt), .int (nI pp), .int (th), .ref mp, .int (rn), .int (ro), .int (to), .int (wt), .int (hn), .int (ho), .ref mt, .int (nI tl), .int (fa), .int (bk), .int (ba), .int (spt), .int (hre), .int (tok), .int (val), .ref mc, .ref ml, .ref mn, .int (nI se), .ref mk, .ref mg, .ref mh, .ref mq, .int (tn)])), (ma, .inl (E.2.1 1, 172, .inl (f)))] := by
    intro D_5
    induction D_5 with
    | zero => intro i cb h; exact absurd h (Nat.not_lt_zero _)
    | succ D_5 ih_5 =>
      intro i cb hmu_5 h_5_0 h_5_1
      refine v_iload (pc := 5) 0 dX5_canBe_5 rfl ?_
      refine v_aload_n (pc := 7) 2 dX5_canBe_7 rfl rfl ?_
      refine v_callV (pc := 8) (rest := [.int (nI i)]) [0] 0 lk_1024 (c_X5_sets l E m0 ma mp mt mc ml mn mk mg mh mq nt pp tl se th rn ro to wt hn ho fa bk ba spt hre tok val tn (by first | assumption | omega)) dX5_canBe_8 rfl rfl (Nat.le_of_ble_eq_true rfl) (by decide) rfl rfl rfl (by decide) rfl (Rt.len rfl) (Rt.go ?_)
      refine v_w (ws' := [(m0, .inr (5, [.ref ma, .int (nI nt), .int (nI pp), .int (th), .ref mp, .int (rn), .int (ro), .int (to), .int (wt), .int (hn), .int (ho), .ref mt, .int (nI tl), .int (fa), .int (bk), .int (ba), .int (spt), .int (hre), .int (tok), .int (val), .ref mc, .ref ml, .ref mn, .int (nI se), .ref mk, .ref mg, .ref mh, .ref mq, .int (tn)])), (ma, .inl (E.2.1 1, 172, .inl (f)))]) rfl ?_
      refine v_st (st' := [.int (nI (2 ^ nt)), .int (nI i)]) rfl ?_
      refine v_cmpN_ge (pc := 11) (a := i) (b := 2 ^ nt) 58 dX5_canBe_11 (by decide) (by omega) (by omega) (fun c_11 => ?_) (fun c_11 => ?_)
      · skip
        refine v_iload_n (pc := 58) 1 dX5_canBe_58 rfl rfl ?_
        refine v_zret (pc := 59) dX5_canBe_59 rfl (zn01 _) ⟨rfl, rfl⟩ (Rt.i ?_)
        obtain rfl : i = 2 ^ nt := by omega
        rw [h_5_1]
      · skip
        refine v_iload_n (pc := 14) 1 dX5_canBe_14 rfl rfl ?_
        refine v_ifB_ne (pc := 15) 58 dX5_canBe_15 (by decide) (fun c_15 => ?_) (fun c_15 => ?_)
        · skip
          refine v_iload_n (pc := 58) 1 dX5_canBe_58 rfl rfl ?_
          refine v_zret (pc := 59) dX5_canBe_59 rfl (zn01 _) ⟨rfl, rfl⟩ (Rt.i ?_)
          rw [if_pos c_15, if_pos (anyB_mono _ h_5_0 (by rw [← h_5_1]; exact c_15))]
        · skip
          refine v_iload (pc := 18) 0 dX5_canBe_18 rfl ?_
          refine v_iload_n (pc := 20) 3 dX5_canBe_20 rfl rfl ?_
          refine v_ishr (pc := 21) dX5_canBe_21 ?_
          refine v_iconst (pc := 22) (v := 1) dX5_canBe_22 (by decide) ?_
          refine v_iand (pc := 23) dX5_canBe_23 ?_
          refine v_iconst (pc := 24) (v := 1) dX5_canBe_24 (by decide) ?_
          refine v_icmp_ne (pc := 25) 32 dX5_canBe_25 (by decide) (fun c_25 => ?_) (fun c_25 => ?_)
          · skip
            refine v_iconst (pc := 32) (v := 0) dX5_canBe_32 (by decide) ?_
            refine v_iload_n (pc := 33) 4 dX5_canBe_33 rfl rfl ?_
            refine v_icmp_ne (pc := 34) 50 dX5_canBe_34 (by decide) (fun c_34 => ?_) (fun c_34 => ?_)
            · skip
              refine v_iconst (pc := 50) (v := 0) dX5_canBe_50 (by decide) ?_
              refine v_istore_n (pc := 51) (lv' := [(3, .int (0)), (4, .int (nI i)), (0, .ref m0), (1, .int (n)), (2, .int (if P then 1 else 0))]) dX5_canBe_51 rfl (by decide) rfl ?_
              refine v_iinc (pc := 52) (v := nI (i + 1)) (lv' := [(4, .int (nI (i + 1))), (3, .int (0)), (0, .ref m0), (1, .int (n)), (2, .int (if P then 1 else 0))]) 1 dX5_canBe_52 rfl (nI_inc (i) 1) (by decide) rfl ?_
              refine v_goto (pc := 55) 5 dX5_canBe_55 (by decide) ?_
              refine v_lv (lv' := [(4, .int (nI (i + 1))), (3, .int (if false = true then 1 else 0)), (0, .ref m0), (1, .int (n)), (2, .int (if P then 1 else 0))]) [0, 1, 2, 3, 4] rfl ?_
              refine ih_5 (i + 1) false (by omega) ?_ ?_
              · omega
              · simp only [anyB]; rw [← h_5_1, show cb = false from by simpa using c_15, Bool.false_or]; unfold cbQ; exact (decide_eq_false (fun q => c_34 (zero_ite.mpr (fun p => c_25 (q.1.mpr p))))).symm
            · skip
              refine v_aload_n (pc := 37) 2 dX5_canBe_37 rfl rfl ?_
              refine v_iload (pc := 38) 0 dX5_canBe_38 rfl ?_
              refine v_callV (pc := 40) (rest := []) [0, 1] 0 lk_1057 (c_X5_agrees l E m0 ma mp mt mc ml mn mk mg mh mq nt pp rl tl se th rn ro to wt hn ho fa bk ba spt hre tok val tn f (nI i) (by first | assumption | omega) (by first | assumption | omega)) dX5_canBe_40 rfl rfl (Nat.le_of_ble_eq_true rfl) (by decide) rfl rfl rfl (by decide) rfl (Rt.len rfl) (Rt.go ?_)
              refine v_w (ws' := [(m0, .inr (5, [.ref ma, .int (nI nt), .int (nI pp), .int (th), .ref mp, .int (rn), .int (ro), .int (to), .int (wt), .int (hn), .int (ho), .ref mt, .int (nI tl), .int (fa), .int (bk), .int (ba), .int (spt), .int (hre), .int (tok), .int (val), .ref mc, .ref ml, .ref mn, .int (nI se), .ref mk, .ref mg, .ref mh, .ref mq, .int (tn)])), (ma, .inl (E.2.1 1, 172, .inl (f)))]) rfl ?_
              refine v_st (st' := [.int (if outM rl th f (nI i) = (nI i) then 1 else 0)]) rfl ?_
              refine v_ifB_eq (pc := 43) 50 dX5_canBe_43 (by decide) (fun c_43 => ?_) (fun c_43 => ?_)
              · skip
                refine v_iconst (pc := 50) (v := 0) dX5_canBe_50 (by decide) ?_
                refine v_istore_n (pc := 51) (lv' := [(3, .int (0)), (4, .int (nI i)), (0, .ref m0), (1, .int (n)), (2, .int (if P then 1 else 0))]) dX5_canBe_51 rfl (by decide) rfl ?_
                refine v_iinc (pc := 52) (v := nI (i + 1)) (lv' := [(4, .int (nI (i + 1))), (3, .int (0)), (0, .ref m0), (1, .int (n)), (2, .int (if P then 1 else 0))]) 1 dX5_canBe_52 rfl (nI_inc (i) 1) (by decide) rfl ?_
                refine v_goto (pc := 55) 5 dX5_canBe_55 (by decide) ?_
                refine v_lv (lv' := [(4, .int (nI (i + 1))), (3, .int (if false = true then 1 else 0)), (0, .ref m0), (1, .int (n)), (2, .int (if P then 1 else 0))]) [0, 1, 2, 3, 4] rfl ?_
                refine ih_5 (i + 1) false (by omega) ?_ ?_
                · omega
                · simp only [anyB]; rw [← h_5_1, show cb = false from by simpa using c_15, Bool.false_or]; unfold cbQ; exact (decide_eq_false (fun q => c_43 q.2)).symm
              · skip
                refine v_iconst (pc := 46) (v := 1) dX5_canBe_46 (by decide) ?_
                refine v_goto (pc := 47) 51 dX5_canBe_47 (by decide) ?_
                refine v_istore_n (pc := 51) (lv' := [(3, .int (1)), (4, .int (nI i)), (0, .ref m0), (1, .int (n)), (2, .int (if P then 1 else 0))]) dX5_canBe_51 rfl (by decide) rfl ?_
                refine v_iinc (pc := 52) (v := nI (i + 1)) (lv' := [(4, .int (nI (i + 1))), (3, .int (1)), (0, .ref m0), (1, .int (n)), (2, .int (if P then 1 else 0))]) 1 dX5_canBe_52 rfl (nI_inc (i) 1) (by decide) rfl ?_
                refine v_goto (pc := 55) 5 dX5_canBe_55 (by decide) ?_
                refine v_lv (lv' := [(4, .int (nI (i + 1))), (3, .int (if true = true then 1 else 0)), (0, .ref m0), (1, .int (n)), (2, .int (if P then 1 else 0))]) [0, 1, 2, 3, 4] rfl ?_
                refine ih_5 (i + 1) true (by omega) ?_ ?_
                · omega
                · simp only [anyB]; rw [← h_5_1, show cb = false from by simpa using c_15, Bool.false_or]; unfold cbQ; exact (decide_eq_true ⟨⟨fun z => absurd z c_25, fun p => absurd p (zero_ite.mp c_34)⟩, c_43⟩).symm
          · skip
            refine v_iconst (pc := 28) (v := 1) dX5_canBe_28 (by decide) ?_
            refine v_goto (pc := 29) 33 dX5_canBe_29 (by decide) ?_
            refine v_iload_n (pc := 33) 4 dX5_canBe_33 rfl rfl ?_
            refine v_icmp_ne (pc := 34) 50 dX5_canBe_34 (by decide) (fun c_34 => ?_) (fun c_34 => ?_)
            · skip
              refine v_iconst (pc := 50) (v := 0) dX5_canBe_50 (by decide) ?_
              refine v_istore_n (pc := 51) (lv' := [(3, .int (0)), (4, .int (nI i)), (0, .ref m0), (1, .int (n)), (2, .int (if P then 1 else 0))]) dX5_canBe_51 rfl (by decide) rfl ?_
              refine v_iinc (pc := 52) (v := nI (i + 1)) (lv' := [(4, .int (nI (i + 1))), (3, .int (0)), (0, .ref m0), (1, .int (n)), (2, .int (if P then 1 else 0))]) 1 dX5_canBe_52 rfl (nI_inc (i) 1) (by decide) rfl ?_
              refine v_goto (pc := 55) 5 dX5_canBe_55 (by decide) ?_
              refine v_lv (lv' := [(4, .int (nI (i + 1))), (3, .int (if false = true then 1 else 0)), (0, .ref m0), (1, .int (n)), (2, .int (if P then 1 else 0))]) [0, 1, 2, 3, 4] rfl ?_
              refine ih_5 (i + 1) false (by omega) ?_ ?_
              · omega
              · simp only [anyB]; rw [← h_5_1, show cb = false from by simpa using c_15, Bool.false_or]; unfold cbQ; exact (decide_eq_false (fun q => c_34 (one_ite.mpr (q.1.mp c_25)))).symm
            · skip
              refine v_aload_n (pc := 37) 2 dX5_canBe_37 rfl rfl ?_
              refine v_iload (pc := 38) 0 dX5_canBe_38 rfl ?_
              refine v_callV (pc := 40) (rest := []) [0, 1] 0 lk_1057 (c_X5_agrees l E m0 ma mp mt mc ml mn mk mg mh mq nt pp rl tl se th rn ro to wt hn ho fa bk ba spt hre tok val tn f (nI i) (by first | assumption | omega) (by first | assumption | omega)) dX5_canBe_40 rfl rfl (Nat.le_of_ble_eq_true rfl) (by decide) rfl rfl rfl (by decide) rfl (Rt.len rfl) (Rt.go ?_)
              refine v_w (ws' := [(m0, .inr (5, [.ref ma, .int (nI nt), .int (nI pp), .int (th), .ref mp, .int (rn), .int (ro), .int (to), .int (wt), .int (hn), .int (ho), .ref mt, .int (nI tl), .int (fa), .int (bk), .int (ba), .int (spt), .int (hre), .int (tok), .int (val), .ref mc, .ref ml, .ref mn, .int (nI se), .ref mk, .ref mg, .ref mh, .ref mq, .int (tn)])), (ma, .inl (E.2.1 1, 172, .inl (f)))]) rfl ?_
              refine v_st (st' := [.int (if outM rl th f (nI i) = (nI i) then 1 else 0)]) rfl ?_
              refine v_ifB_eq (pc := 43) 50 dX5_canBe_43 (by decide) (fun c_43 => ?_) (fun c_43 => ?_)
              · skip
                refine v_iconst (pc := 50) (v := 0) dX5_canBe_50 (by decide) ?_
                refine v_istore_n (pc := 51) (lv' := [(3, .int (0)), (4, .int (nI i)), (0, .ref m0), (1, .int (n)), (2, .int (if P then 1 else 0))]) dX5_canBe_51 rfl (by decide) rfl ?_
                refine v_iinc (pc := 52) (v := nI (i + 1)) (lv' := [(4, .int (nI (i + 1))), (3, .int (0)), (0, .ref m0), (1, .int (n)), (2, .int (if P then 1 else 0))]) 1 dX5_canBe_52 rfl (nI_inc (i) 1) (by decide) rfl ?_
                refine v_goto (pc := 55) 5 dX5_canBe_55 (by decide) ?_
                refine v_lv (lv' := [(4, .int (nI (i + 1))), (3, .int (if false = true then 1 else 0)), (0, .ref m0), (1, .int (n)), (2, .int (if P then 1 else 0))]) [0, 1, 2, 3, 4] rfl ?_
                refine ih_5 (i + 1) false (by omega) ?_ ?_
                · omega
                · simp only [anyB]; rw [← h_5_1, show cb = false from by simpa using c_15, Bool.false_or]; unfold cbQ; exact (decide_eq_false (fun q => c_43 q.2)).symm
              · skip
                refine v_iconst (pc := 46) (v := 1) dX5_canBe_46 (by decide) ?_
                refine v_goto (pc := 47) 51 dX5_canBe_47 (by decide) ?_
                refine v_istore_n (pc := 51) (lv' := [(3, .int (1)), (4, .int (nI i)), (0, .ref m0), (1, .int (n)), (2, .int (if P then 1 else 0))]) dX5_canBe_51 rfl (by decide) rfl ?_
                refine v_iinc (pc := 52) (v := nI (i + 1)) (lv' := [(4, .int (nI (i + 1))), (3, .int (1)), (0, .ref m0), (1, .int (n)), (2, .int (if P then 1 else 0))]) 1 dX5_canBe_52 rfl (nI_inc (i) 1) (by decide) rfl ?_
                refine v_goto (pc := 55) 5 dX5_canBe_55 (by decide) ?_
                refine v_lv (lv' := [(4, .int (nI (i + 1))), (3, .int (if true = true then 1 else 0)), (0, .ref m0), (1, .int (n)), (2, .int (if P then 1 else 0))]) [0, 1, 2, 3, 4] rfl ?_
                refine ih_5 (i + 1) true (by omega) ?_ ?_
                · omega
                · simp only [anyB]; rw [← h_5_1, show cb = false from by simpa using c_15, Bool.false_or]; unfold cbQ; exact (decide_eq_true ⟨⟨fun _ => one_ite.mp c_34, fun _ => c_25⟩, c_43⟩).symm
  refine v_lv (lv' := [(4, .int (nI 0)), (3, .int (if false = true then 1 else 0)), (0, .ref m0), (1, .int (n)), (2, .int (if P then 1 else 0))]) [0, 1, 2, 3, 4] rfl ?_
  refine loop_5 ((2 ^ nt - 0) + 1) 0 false (Nat.lt_succ_self _) ?_ ?_
  · omega
  · rfl
