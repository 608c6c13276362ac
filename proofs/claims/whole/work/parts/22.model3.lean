def fwM (A C : Nat → Bool) : Nat → Int32 × Int32
  | 0 => (100, -4)
  | n + 1 => if A n = true ∧ ¬ (fwM A C n).1 ≤ btsK (nI n) 8 ∧ C n = true then (btsK (nI n) 8, nI n) else fwM A C n
def coM (p : Nat → Bool) (g : Nat → Int32) : Nat → Int32 × Int32
  | 0 => (100, -4)
  | n + 1 => if ¬ (coM p g n).1 ≤ g n ∧ p n = true then (g n, nI n) else coM p g n
def riM (p : Nat → Bool) (g : Nat → Int32) : Nat → Int32 × Int32
  | 0 => (-100, -4)
  | n + 1 => if ¬ g n ≤ (riM p g n).1 ∧ p n = true then (g n, nI n) else riM p g n
theorem upd_tw (f : Nat → Int32) (i : Nat) (x y : Int32) : upd (upd f i x) i y = upd f i y := fa_upd_twice f i x y
theorem upd_sm (f : Nat → Int32) (i : Nat) : upd f i (f i) = f := fa_upd_same rfl
def prW (v c : Nat) : Nat → Nat
  | 0 => 1
  | n + 1 => prW v c n * if bt1 (nI c) (nI n) = 1 then 10 - v else v
theorem prW_le {v c : Nat} (hv : v ≤ 10) : ∀ n, prW v c n ≤ 10 ^ n
  | 0 => Nat.le_refl 1
  | n + 1 => by
    have h := prW_le (c := c) hv n
    simp only [prW]
    rw [Nat.pow_succ]
    exact Nat.mul_le_mul h (by split <;> omega)
def expM (v rl : Nat) (g : Nat → Nat) : Nat → Nat
  | 0 => 0
  | n + 1 => expM v rl g n + g n * prW v n rl
theorem expM_le {v rl : Nat} {g : Nat → Nat} (hv : v ≤ 10) (hr : rl ≤ 8) (hg : ∀ c, g c ≤ 64) : ∀ n, expM v rl g n ≤ n * 6400000000
  | 0 => by simp [expM]
  | n + 1 => by
    have h := expM_le hv hr hg n
    have h1 := prW_le (c := n) hv rl
    have h2 := ten_rl hr
    have h3 : g n * prW v n rl ≤ 64 * 100000000 := Nat.mul_le_mul (hg n) (Nat.le_trans h1 h2)
    simp only [expM]
    omega
def mm0 (nt rl : Nat) (f : Nat → Int32) (n : Int32) : Nat → Nat := fun c => if anyB (cbQ rl (nI c) f n True) (2 ^ nt) = true then 1 else 0
def mm1 (nt rl : Nat) (f : Nat → Int32) : Nat → Nat := fun c => if cntM (agM rl (nI c) f) (2 ^ nt) = 0 then 1 else 0
def mm2 (nt rl : Nat) (f : Nat → Int32) : Nat → Nat := fun c => cntM (agM rl (nI c) f) (2 ^ nt)
theorem mm0_le {nt rl : Nat} {f : Nat → Int32} {n : Int32} (c : Nat) : mm0 nt rl f n c ≤ 64 := by unfold mm0; split <;> omega
theorem mm1_le {nt rl : Nat} {f : Nat → Int32} (c : Nat) : mm1 nt rl f c ≤ 64 := by unfold mm1; split <;> omega
theorem mm2_le {nt rl : Nat} {f : Nat → Int32} (h : nt ≤ 6) (c : Nat) : mm2 nt rl f c ≤ 64 := Nat.le_trans (cntM_le _ _) (p64 h)
theorem lnif {P : Prop} [Decidable P] : (if ¬ P then (0 : Int64) else 1) = lN (if P then 1 else 0) := by by_cases h : P <;> simp [h] <;> rfl
theorem w10 {v : Nat} (hv : v ≤ 10) {P : Prop} [Decidable P] : (if ¬ P then Int32.toInt64 (nI v) else Int32.toInt64 (10 - nI v)) = lN (if P then 10 - v else v) := by
  by_cases h : P
  · rw [if_neg (fun q => q h), if_pos h, show (10 : Int32) = nI 10 from rfl, pk_sub hv, nI_l (by omega)]
  · rw [if_pos h, if_neg h, nI_l (by omega)]
theorem c_X5_fewest (l : Launch) (E : VE) (m0 : Nat) (ma : Nat) (mp : Nat) (mt : Nat) (mc : Nat) (ml : Nat) (mn : Nat) (mk : Nat) (mg : Nat) (mh : Nat) (mq : Nat) (nt : Nat) (pp : Nat) (rl : Nat) (tl : Nat) (se : Nat) (th : Int32) (rn : Int32) (ro : Int32) (to : Int32) (wt : Int32) (hn : Int32) (ho : Int32) (fa : Int32) (bk : Int32) (ba : Int32) (spt : Int32) (hre : Int32) (tok : Int32) (val : Int32) (tn : Int32) (f : Nat → Int32) (n : Int32) (wh : Int32) (P : Prop) (dP : Decidable P) (h_rl : rl ≤ 8) (h_38 : f 38 = nI rl) (h_nt : nt ≤ 6) (h_pp : pp ≤ 4) : Ct l E yX5_fewest cX5_fewest 9 (Option.some FieldType.int) 4 92 0 0 [.ref m0, .int (n), .int (if P then 1 else 0), .int (wh)] [(m0, .inr (5, [.ref ma, .int (nI nt), .int (nI pp), .int (th), .ref mp, .int (rn), .int (ro), .int (to), .int (wt), .int (hn), .int (ho), .ref mt, .int (nI tl), .int (fa), .int (bk), .int (ba), .int (spt), .int (hre), .int (tok), .int (val), .ref mc, .ref ml, .ref mn, .int (nI se), .ref mk, .ref mg, .ref mh, .ref mq, .int (tn)])), (ma, .inl (E.2.1 1, 172, .inl (f)))] (Rt (some (.int (if okN n nt then (if ¬ wh < 0 ∧ ¬ 1 < wh then (if (fwM (fun s => decide (nI s &&& f 39 = 0)) (fun s => anyB (cbQ rl th (upd f 39 (f 39 ||| nI s)) n P) (2 ^ nt)) (2 ^ pp)).2 = -4 then (fwM (fun s => decide (nI s &&& f 39 = 0)) (fun s => anyB (cbQ rl th (upd f 39 (f 39 ||| nI s)) n P) (2 ^ nt)) (2 ^ pp)).2 else if wh = 1 then (fwM (fun s => decide (nI s &&& f 39 = 0)) (fun s => anyB (cbQ rl th (upd f 39 (f 39 ||| nI s)) n P) (2 ^ nt)) (2 ^ pp)).2 else (fwM (fun s => decide (nI s &&& f 39 = 0)) (fun s => anyB (cbQ rl th (upd f 39 (f 39 ||| nI s)) n P) (2 ^ nt)) (2 ^ pp)).1) else -1) else -1))) [(m0, .inr (5, [.ref ma, .int (nI nt), .int (nI pp), .int (th), .ref mp, .int (rn), .int (ro), .int (to), .int (wt), .int (hn), .int (ho), .ref mt, .int (nI tl), .int (fa), .int (bk), .int (ba), .int (spt), .int (hre), .int (tok), .int (val), .ref mc, .ref ml, .ref mn, .int (nI se), .ref mk, .ref mg, .ref mh, .ref mq, .int (tn)])), (ma, .inl (E.2.1 1, 172, .inl (f)))]) := by
  refine Ct.of (own := RX5) (nm := "fewest") (lv := [(0, .ref m0), (1, .int (n)), (2, .int (if P then 1 else 0)), (3, .int (wh))]) (by decide) rfl rfl (Nat.le_of_ble_eq_true rfl) rfl ?_
  have h16 := p16 h_pp
  have h0p := p1 pp
  refine v_aload_n (pc := 0) 0 dX5_fewest_0 rfl rfl ?_
  refine v_iload_n (pc := 1) 1 dX5_fewest_1 rfl rfl ?_
  refine v_callV (pc := 2) (rest := []) [0] 0 lk_966 (c_X5_isNote l E m0 ma mp mt mc ml mn mk mg mh mq nt pp tl se th rn ro to wt hn ho fa bk ba spt hre tok val tn n (by first | assumption | omega)) dX5_fewest_2 rfl rfl (Nat.le_of_ble_eq_true rfl) (by decide) rfl rfl rfl (by decide) rfl (Rt.len rfl) (Rt.go ?_)
  refine v_w (ws' := [(m0, .inr (5, [.ref ma, .int (nI nt), .int (nI pp), .int (th), .ref mp, .int (rn), .int (ro), .int (to), .int (wt), .int (hn), .int (ho), .ref mt, .int (nI tl), .int (fa), .int (bk), .int (ba), .int (spt), .int (hre), .int (tok), .int (val), .ref mc, .ref ml, .ref mn, .int (nI se), .ref mk, .ref mg, .ref mh, .ref mq, .int (tn)])), (ma, .inl (E.2.1 1, 172, .inl (f)))]) rfl ?_
  refine v_st (st' := [.int (if okN n nt then 1 else 0)]) rfl ?_
  refine v_ifB_eq (pc := 5) 18 dX5_fewest_5 (by decide) (fun c_5 => ?_) (fun c_5 => ?_)
  · skip
    refine v_iconst (pc := 18) (v := -1) dX5_fewest_18 (by decide) ?_
    refine v_iret (pc := 19) dX5_fewest_19 rfl ⟨rfl, rfl⟩ (Rt.i2 ?_ ?_)
    · skip
      rw [if_neg c_5]
    · skip
      rfl
  · skip
    refine v_iload_n (pc := 8) 3 dX5_fewest_8 rfl rfl ?_
    refine v_i2l (pc := 9) dX5_fewest_9 ?_
    refine v_lconst (pc := 10) (v := 0) dX5_fewest_10 (by decide) ?_
    refine v_lconst (pc := 11) (v := 1) dX5_fewest_11 (by decide) ?_
    refine v_callS (pc := 12) (rest := []) [] lk_880 (c_X5_in l E (Int32.toInt64 (wh)) 0 1) dX5_fewest_12 rfl rfl (Nat.le_of_ble_eq_true rfl) (by decide) (by decide) rfl (Rt.len rfl) (Rt.go ?_)
    refine v_w (ws' := [(m0, .inr (5, [.ref ma, .int (nI nt), .int (nI pp), .int (th), .ref mp, .int (rn), .int (ro), .int (to), .int (wt), .int (hn), .int (ho), .ref mt, .int (nI tl), .int (fa), .int (bk), .int (ba), .int (spt), .int (hre), .int (tok), .int (val), .ref mc, .ref ml, .ref mn, .int (nI se), .ref mk, .ref mg, .ref mh, .ref mq, .int (tn)])), (ma, .inl (E.2.1 1, 172, .inl (f)))]) rfl ?_
    refine v_st (st' := [.int (if ¬ (Int32.toInt64 (wh)) < 0 ∧ ¬ 1 < (Int32.toInt64 (wh)) then 1 else 0)]) rfl ?_
    refine v_st (st' := [.int (if ¬ wh < 0 ∧ ¬ 1 < wh then 1 else 0)]) (ite_st (inK (a := 0) (b := 1)) _) ?_
    refine v_ifB_ne (pc := 15) 20 dX5_fewest_15 (by decide) (fun c_15 => ?_) (fun c_15 => ?_)
    · skip
      refine v_aload_n (pc := 20) 0 dX5_fewest_20 rfl rfl ?_
      refine gf_787 (pc := 21) 0 dX5_fewest_21 rfl rfl ?_
      refine v_bipush (pc := 24) (v := 39) dX5_fewest_24 (by decide) ?_
      refine v_ialdN (pc := 26) 1 1 (39) dX5_fewest_26 rfl rfl rfl (by decide) (by decide) ?_
      refine v_istore (pc := 27) (lv' := [(4, .int (f 39)), (0, .ref m0), (1, .int (n)), (2, .int (if P then 1 else 0)), (3, .int (wh))]) dX5_fewest_27 (by decide) rfl ?_
      refine v_bipush (pc := 29) (v := 100) dX5_fewest_29 (by decide) ?_
      refine v_istore (pc := 31) (lv' := [(5, .int (100)), (4, .int (f 39)), (0, .ref m0), (1, .int (n)), (2, .int (if P then 1 else 0)), (3, .int (wh))]) dX5_fewest_31 (by decide) rfl ?_
      refine v_bipush (pc := 33) (v := -4) dX5_fewest_33 (by decide) ?_
      refine v_istore (pc := 35) (lv' := [(6, .int (-4)), (5, .int (100)), (4, .int (f 39)), (0, .ref m0), (1, .int (n)), (2, .int (if P then 1 else 0)), (3, .int (wh))]) dX5_fewest_35 (by decide) rfl ?_
      refine v_iconst (pc := 37) (v := 0) dX5_fewest_37 (by decide) ?_
      refine v_istore (pc := 38) (lv' := [(7, .int (0)), (6, .int (-4)), (5, .int (100)), (4, .int (f 39)), (0, .ref m0), (1, .int (n)), (2, .int (if P then 1 else 0)), (3, .int (wh))]) dX5_fewest_38 (by decide) rfl ?_
      have loop_40 : ∀ (D_40 : Nat) (i : Nat) (fe : Int32) (wc : Int32) (g : Nat → Int32), 2 ^ pp - i < D_40 → (i ≤ 2 ^ pp) → ((fe, wc) = fwM (fun s => decide (nI s &&& f 39 = 0)) (fun s => anyB (cbQ rl th (upd f 39 (f 39 ||| nI s)) n P) (2 ^ nt)) i) → (∀ v, upd g 39 v = upd f 39 v) → (g 38 = nI rl) → V l E RX5 cX5_fewest 9 (Option.some FieldType.int) "fewest" ({ frames := 4, cells := 0, slots := 0, locals := 92 }) [(m0, .inr (5, [.ref ma, .int (nI nt), .int (nI pp), .int (th), .ref mp, .int (rn), .int (ro), .int (to), .int (wt), .int (hn), .int (ho), .ref mt, .int (nI tl), .int (fa), .int (bk), .int (ba), .int (spt), .int (hre), .int (tok), .int (val), .ref mc, .ref ml, .ref mn, .int (nI se), .ref mk, .ref mg, .ref mh, .ref mq, .int (tn)])), (ma, .inl (E.2.1 1, 172, .inl (f)))] 0 0 (Rt (some (.int (if okN n nt then (if ¬ wh < 0 ∧ ¬ 1 < wh then (if (fwM (fun s => decide (nI s &&& f 39 = 0)) (fun s => anyB (cbQ rl th (upd f 39 (f 39 ||| nI s)) n P) (2 ^ nt)) (2 ^ pp)).2 = -4 then (fwM (fun s => decide (nI s &&& f 39 = 0)) (fun s => anyB (cbQ rl th (upd f 39 (f 39 ||| nI s)) n P) (2 ^ nt)) (2 ^ pp)).2 else if wh = 1 then (fwM (fun s => decide (nI s &&& f 39 = 0)) (fun s => anyB (cbQ rl th (upd f 39 (f 39 ||| nI s)) n P) (2 ^ nt)) (2 ^ pp)).2 else (fwM (fun s => decide (nI s &&& f 39 = 0)) (fun s => anyB (cbQ rl th (upd f 39 (f 39 ||| nI s)) n P) (2 ^ nt)) (2 ^ pp)).1) else -1) else -1))) [(m0, .inr (5, [.ref ma, .int (nI nt), .int (nI pp), .int (th), .ref mp, .int (rn), .int (ro), .int (to), .int (wt), .int (hn), .int (ho), .ref mt, .int (nI tl), .int (fa), .int (bk), .int (ba), .int (spt), .int (hre), .int (tok), .int (val), .ref mc, .ref ml, .ref mn, .int (nI se), .ref mk, .ref mg, .ref mh, .ref mq, .int (tn)])), (ma, .inl (E.2.1 1, 172, .inl (f)))]) 0 0 40 [(7, .int (nI i)), (5, .int (fe)), (6, .int (wc)), (4, .int (f 39)), (0, .ref m0), (1, .int (n)), (2, .int (if P then 1 else 0)), (3, .int (wh))] [] [(m0, .inr (5, [.ref ma, .int (nI nt), .int (nI pp), .int (th), .ref mp, .int (rn), .int (ro), .int (to), .int (wt), .int (hn), .int (ho), .ref mt, .int (nI tl), .int (fa), .int (bk), .int (ba), .int (spt), .int (hre), .int (tok), .int (val), .ref mc, .ref ml, .ref mn, .int (nI se), .ref mk, .ref mg, .ref mh, .ref mq, .int (tn)])), (ma, .inl (E.2.1 1, 172, .inl (g)))] := by
        intro D_40
        induction D_40 with
        | zero => intro i fe wc g h; exact absurd h (Nat.not_lt_zero _)
        | succ D_40 ih_40 =>
          intro i fe wc g hmu_40 h_40_0 h_40_1 h_40_2 h_40_3
          refine v_iload (pc := 40) 0 dX5_fewest_40 rfl ?_
          refine v_iconst (pc := 42) (v := 1) dX5_fewest_42 (by decide) ?_
          refine v_aload_n (pc := 43) 4 dX5_fewest_43 rfl rfl ?_
          refine gf_789 (pc := 44) 0 dX5_fewest_44 rfl rfl ?_
          refine v_ishl (pc := 47) dX5_fewest_47 ?_
          refine v_st (st' := [.int (nI (2 ^ pp)), .int (nI i)]) (by rw [pw31 pp (by omega)]) ?_
          refine v_cmpN_ge (pc := 48) (a := i) (b := 2 ^ pp) 126 dX5_fewest_48 (by decide) (by omega) (by omega) (fun c_48 => ?_) (fun c_48 => ?_)
          · skip
            have hgf : upd g 39 (f 39) = f := by rw [h_40_2, upd_sm]
            refine v_aload_n (pc := 126) 4 dX5_fewest_126 rfl rfl ?_
            refine gf_787 (pc := 127) 0 dX5_fewest_127 rfl rfl ?_
            refine v_bipush (pc := 130) (v := 39) dX5_fewest_130 (by decide) ?_
            refine v_iload (pc := 132) 3 dX5_fewest_132 rfl ?_
            refine v_iastN (pc := 134) (ws' := [(m0, .inr (5, [.ref ma, .int (nI nt), .int (nI pp), .int (th), .ref mp, .int (rn), .int (ro), .int (to), .int (wt), .int (hn), .int (ho), .ref mt, .int (nI tl), .int (fa), .int (bk), .int (ba), .int (spt), .int (hre), .int (tok), .int (val), .ref mc, .ref ml, .ref mn, .int (nI se), .ref mk, .ref mg, .ref mh, .ref mq, .int (tn)])), (ma, .inl (E.2.1 1, 172, .inl (upd (g) (39) (f 39))))]) 1 1 (39) dX5_fewest_134 rfl rfl rfl (by decide) (by decide) rfl ?_
            refine v_iload (pc := 135) 2 dX5_fewest_135 rfl ?_
            refine v_bipush (pc := 137) (v := -4) dX5_fewest_137 (by decide) ?_
            refine v_icmp_eq (pc := 139) 147 dX5_fewest_139 (by decide) (fun c_139 => ?_) (fun c_139 => ?_)
            · skip
              refine v_iload (pc := 147) 2 dX5_fewest_147 rfl ?_
              refine v_goto (pc := 149) 154 dX5_fewest_149 (by decide) ?_
              refine v_iret (pc := 154) dX5_fewest_154 rfl ⟨rfl, rfl⟩ (Rt.i2 ?_ ?_)
              · skip
                obtain rfl : i = 2 ^ pp := by omega
                rw [if_pos c_5, if_pos c_15, ← h_40_1, if_pos c_139]
              · skip
                rw [hgf]
            · skip
              refine v_iload_n (pc := 142) 7 dX5_fewest_142 rfl rfl ?_
              refine v_iconst (pc := 143) (v := 1) dX5_fewest_143 (by decide) ?_
              refine v_icmp_ne (pc := 144) 152 dX5_fewest_144 (by decide) (fun c_144 => ?_) (fun c_144 => ?_)
              · skip
                refine v_iload (pc := 152) 1 dX5_fewest_152 rfl ?_
                refine v_iret (pc := 154) dX5_fewest_154 rfl ⟨rfl, rfl⟩ (Rt.i2 ?_ ?_)
                · skip
                  obtain rfl : i = 2 ^ pp := by omega
                  rw [if_pos c_5, if_pos c_15, ← h_40_1, if_neg c_139, if_neg c_144]
                · skip
                  rw [hgf]
              · skip
                refine v_iload (pc := 147) 2 dX5_fewest_147 rfl ?_
                refine v_goto (pc := 149) 154 dX5_fewest_149 (by decide) ?_
                refine v_iret (pc := 154) dX5_fewest_154 rfl ⟨rfl, rfl⟩ (Rt.i2 ?_ ?_)
                · skip
                  obtain rfl : i = 2 ^ pp := by omega
                  rw [if_pos c_5, if_pos c_15, ← h_40_1, if_neg c_139, if_pos c_144]
                · skip
                  rw [hgf]
          · skip
            refine v_iload (pc := 51) 0 dX5_fewest_51 rfl ?_
            refine v_iload (pc := 53) 3 dX5_fewest_53 rfl ?_
            refine v_iand (pc := 55) dX5_fewest_55 ?_
            refine v_if_ne (pc := 56) 120 dX5_fewest_56 (by decide) (fun c_56 => ?_) (fun c_56 => ?_)
            · skip
              refine v_iinc (pc := 120) (v := nI (i + 1)) (lv' := [(7, .int (nI (i + 1))), (5, .int (fe)), (6, .int (wc)), (4, .int (f 39)), (0, .ref m0), (1, .int (n)), (2, .int (if P then 1 else 0)), (3, .int (wh))]) 0 dX5_fewest_120 rfl (nI_inc (i) 1) (by decide) rfl ?_
              refine v_goto (pc := 123) 40 dX5_fewest_123 (by decide) ?_
              refine v_lv (lv' := [(7, .int (nI (i + 1))), (5, .int (fe)), (6, .int (wc)), (4, .int (f 39)), (0, .ref m0), (1, .int (n)), (2, .int (if P then 1 else 0)), (3, .int (wh))]) [0, 1, 2, 3, 4, 5, 6, 7] rfl ?_
              refine ih_40 (i + 1) fe wc g (by omega) ?_ ?_ ?_ ?_
              · omega
              · simp only [fwM]; rw [← h_40_1]; rw [if_neg (fun q => c_56 (decide_eq_true_eq.mp q.1))]
              · exact h_40_2
              · exact h_40_3
            · skip
              refine v_iload (pc := 59) 0 dX5_fewest_59 rfl ?_
              refine v_callS (pc := 61) (rest := []) [] lk_1105 (c_X5_bitsOf l E (nI i)) dX5_fewest_61 rfl rfl (Nat.le_of_ble_eq_true rfl) (by decide) (by decide) rfl (Rt.len rfl) (Rt.go ?_)
              refine v_w (ws' := [(m0, .inr (5, [.ref ma, .int (nI nt), .int (nI pp), .int (th), .ref mp, .int (rn), .int (ro), .int (to), .int (wt), .int (hn), .int (ho), .ref mt, .int (nI tl), .int (fa), .int (bk), .int (ba), .int (spt), .int (hre), .int (tok), .int (val), .ref mc, .ref ml, .ref mn, .int (nI se), .ref mk, .ref mg, .ref mh, .ref mq, .int (tn)])), (ma, .inl (E.2.1 1, 172, .inl (g)))]) rfl ?_
              refine v_st (st' := [.int (btsK (nI i) 8)]) rfl ?_
              refine v_iload (pc := 64) 1 dX5_fewest_64 rfl ?_
              refine v_icmp_ge (pc := 66) 120 dX5_fewest_66 (by decide) (fun c_66 => ?_) (fun c_66 => ?_)
              · skip
                refine v_iinc (pc := 120) (v := nI (i + 1)) (lv' := [(7, .int (nI (i + 1))), (5, .int (fe)), (6, .int (wc)), (4, .int (f 39)), (0, .ref m0), (1, .int (n)), (2, .int (if P then 1 else 0)), (3, .int (wh))]) 0 dX5_fewest_120 rfl (nI_inc (i) 1) (by decide) rfl ?_
                refine v_goto (pc := 123) 40 dX5_fewest_123 (by decide) ?_
                refine v_lv (lv' := [(7, .int (nI (i + 1))), (5, .int (fe)), (6, .int (wc)), (4, .int (f 39)), (0, .ref m0), (1, .int (n)), (2, .int (if P then 1 else 0)), (3, .int (wh))]) [0, 1, 2, 3, 4, 5, 6, 7] rfl ?_
                refine ih_40 (i + 1) fe wc g (by omega) ?_ ?_ ?_ ?_
                · omega
                · simp only [fwM]; rw [← h_40_1]; rw [if_neg (fun q => q.2.1 c_66)]
                · exact h_40_2
                · exact h_40_3
              · skip
                refine v_aload_n (pc := 69) 4 dX5_fewest_69 rfl rfl ?_
                refine gf_787 (pc := 70) 0 dX5_fewest_70 rfl rfl ?_
                refine v_bipush (pc := 73) (v := 39) dX5_fewest_73 (by decide) ?_
                refine v_iload (pc := 75) 3 dX5_fewest_75 rfl ?_
                refine v_iload (pc := 77) 0 dX5_fewest_77 rfl ?_
                refine v_ior (pc := 79) dX5_fewest_79 ?_
                refine v_iastN (pc := 80) (ws' := [(m0, .inr (5, [.ref ma, .int (nI nt), .int (nI pp), .int (th), .ref mp, .int (rn), .int (ro), .int (to), .int (wt), .int (hn), .int (ho), .ref mt, .int (nI tl), .int (fa), .int (bk), .int (ba), .int (spt), .int (hre), .int (tok), .int (val), .ref mc, .ref ml, .ref mn, .int (nI se), .ref mk, .ref mg, .ref mh, .ref mq, .int (tn)])), (ma, .inl (E.2.1 1, 172, .inl (upd (g) (39) ((f 39) ||| (nI i)))))]) 1 1 (39) dX5_fewest_80 rfl rfl rfl (by decide) (by decide) rfl ?_
                refine v_aload_n (pc := 81) 4 dX5_fewest_81 rfl rfl ?_
                refine v_iload_n (pc := 82) 5 dX5_fewest_82 rfl rfl ?_
                refine v_iload_n (pc := 83) 6 dX5_fewest_83 rfl rfl ?_
                refine v_callV (pc := 84) (rest := []) [0, 1] 0 lk_1108 (c_X5_canBe l E m0 ma mp mt mc ml mn mk mg mh mq nt pp rl tl se th rn ro to wt hn ho fa bk ba spt hre tok val tn (upd (g) (39) ((f 39) ||| (nI i))) n P inferInstance (by first | assumption | omega) h_40_3 (by first | assumption | omega)) dX5_fewest_84 rfl rfl (Nat.le_of_ble_eq_true rfl) (by decide) rfl rfl rfl (by decide) rfl (Rt.len rfl) (Rt.go ?_)
                refine v_w (ws' := [(m0, .inr (5, [.ref ma, .int (nI nt), .int (nI pp), .int (th), .ref mp, .int (rn), .int (ro), .int (to), .int (wt), .int (hn), .int (ho), .ref mt, .int (nI tl), .int (fa), .int (bk), .int (ba), .int (spt), .int (hre), .int (tok), .int (val), .ref mc, .ref ml, .ref mn, .int (nI se), .ref mk, .ref mg, .ref mh, .ref mq, .int (tn)])), (ma, .inl (E.2.1 1, 172, .inl ((upd (g) (39) ((f 39) ||| (nI i))))))]) rfl ?_
                refine v_st (st' := [.int (if anyB (cbQ rl th (upd (g) (39) ((f 39) ||| (nI i))) n P) (2 ^ nt) = true then 1 else 0)]) rfl ?_
                refine v_st (st' := [.int (if anyB (cbQ rl th (upd f 39 (f 39 ||| nI i)) n P) (2 ^ nt) = true then 1 else 0)]) (by rw [h_40_2]) ?_
                refine v_istore (pc := 87) (lv' := [(8, .int (if anyB (cbQ rl th (upd f 39 (f 39 ||| nI i)) n P) (2 ^ nt) = true then 1 else 0)), (7, .int (nI i)), (5, .int (fe)), (6, .int (wc)), (4, .int (f 39)), (0, .ref m0), (1, .int (n)), (2, .int (if P then 1 else 0)), (3, .int (wh))]) dX5_fewest_87 (by decide) rfl ?_
                refine v_iload (pc := 89) 0 dX5_fewest_89 rfl ?_
                refine v_ifB_eq (pc := 91) 99 dX5_fewest_91 (by decide) (fun c_91 => ?_) (fun c_91 => ?_)
                · skip
                  refine v_iload (pc := 99) 3 dX5_fewest_99 rfl ?_
                  refine v_istore (pc := 101) (lv' := [(6, .int (wc)), (8, .int (if anyB (cbQ rl th (upd f 39 (f 39 ||| nI i)) n P) (2 ^ nt) = true then 1 else 0)), (7, .int (nI i)), (5, .int (fe)), (4, .int (f 39)), (0, .ref m0), (1, .int (n)), (2, .int (if P then 1 else 0)), (3, .int (wh))]) dX5_fewest_101 (by decide) rfl ?_
                  refine v_iload (pc := 103) 1 dX5_fewest_103 rfl ?_
                  refine v_ifB_eq (pc := 105) 116 dX5_fewest_105 (by decide) (fun c_105 => ?_) (fun c_105 => ?_)
                  · skip
                    refine v_iload (pc := 116) 3 dX5_fewest_116 rfl ?_
                    refine v_istore (pc := 118) (lv' := [(5, .int (fe)), (6, .int (wc)), (8, .int (if anyB (cbQ rl th (upd f 39 (f 39 ||| nI i)) n P) (2 ^ nt) = true then 1 else 0)), (7, .int (nI i)), (4, .int (f 39)), (0, .ref m0), (1, .int (n)), (2, .int (if P then 1 else 0)), (3, .int (wh))]) dX5_fewest_118 (by decide) rfl ?_
                    refine v_iinc (pc := 120) (v := nI (i + 1)) (lv' := [(7, .int (nI (i + 1))), (5, .int (fe)), (6, .int (wc)), (8, .int (if anyB (cbQ rl th (upd f 39 (f 39 ||| nI i)) n P) (2 ^ nt) = true then 1 else 0)), (4, .int (f 39)), (0, .ref m0), (1, .int (n)), (2, .int (if P then 1 else 0)), (3, .int (wh))]) 3 dX5_fewest_120 rfl (nI_inc (i) 1) (by decide) rfl ?_
                    refine v_goto (pc := 123) 40 dX5_fewest_123 (by decide) ?_
                    refine v_lv (lv' := [(7, .int (nI (i + 1))), (5, .int (fe)), (6, .int (wc)), (4, .int (f 39)), (0, .ref m0), (1, .int (n)), (2, .int (if P then 1 else 0)), (3, .int (wh))]) [0, 1, 2, 4, 5, 6, 7, 8] rfl ?_
                    refine ih_40 (i + 1) fe wc (upd (g) (39) ((f 39) ||| (nI i))) (by omega) ?_ ?_ ?_ ?_
                    · omega
                    · simp only [fwM]; rw [← h_40_1]; rw [if_neg (fun q => c_91 q.2.2)]
                    · intro v; rw [upd_tw]; exact h_40_2 v
                    · exact h_40_3
                  · skip
                    refine v_iload (pc := 108) 2 dX5_fewest_108 rfl ?_
                    refine v_callS (pc := 110) (rest := []) [] lk_1105 (c_X5_bitsOf l E (nI i)) dX5_fewest_110 rfl rfl (Nat.le_of_ble_eq_true rfl) (by decide) (by decide) rfl (Rt.len rfl) (Rt.go ?_)
                    refine v_w (ws' := [(m0, .inr (5, [.ref ma, .int (nI nt), .int (nI pp), .int (th), .ref mp, .int (rn), .int (ro), .int (to), .int (wt), .int (hn), .int (ho), .ref mt, .int (nI tl), .int (fa), .int (bk), .int (ba), .int (spt), .int (hre), .int (tok), .int (val), .ref mc, .ref ml, .ref mn, .int (nI se), .ref mk, .ref mg, .ref mh, .ref mq, .int (tn)])), (ma, .inl (E.2.1 1, 172, .inl ((upd (g) (39) ((f 39) ||| (nI i))))))]) rfl ?_
                    refine v_st (st' := [.int (btsK (nI i) 8)]) rfl ?_
                    refine v_goto (pc := 113) 118 dX5_fewest_113 (by decide) ?_
                    refine v_istore (pc := 118) (lv' := [(5, .int (btsK (nI i) 8)), (6, .int (wc)), (8, .int (if anyB (cbQ rl th (upd f 39 (f 39 ||| nI i)) n P) (2 ^ nt) = true then 1 else 0)), (7, .int (nI i)), (4, .int (f 39)), (0, .ref m0), (1, .int (n)), (2, .int (if P then 1 else 0)), (3, .int (wh))]) dX5_fewest_118 (by decide) rfl ?_
                    refine v_iinc (pc := 120) (v := nI (i + 1)) (lv' := [(7, .int (nI (i + 1))), (5, .int (btsK (nI i) 8)), (6, .int (wc)), (8, .int (if anyB (cbQ rl th (upd f 39 (f 39 ||| nI i)) n P) (2 ^ nt) = true then 1 else 0)), (4, .int (f 39)), (0, .ref m0), (1, .int (n)), (2, .int (if P then 1 else 0)), (3, .int (wh))]) 3 dX5_fewest_120 rfl (nI_inc (i) 1) (by decide) rfl ?_
                    refine v_goto (pc := 123) 40 dX5_fewest_123 (by decide) ?_
                    refine v_lv (lv' := [(7, .int (nI (i + 1))), (5, .int (btsK (nI i) 8)), (6, .int (wc)), (4, .int (f 39)), (0, .ref m0), (1, .int (n)), (2, .int (if P then 1 else 0)), (3, .int (wh))]) [0, 1, 2, 4, 5, 6, 7, 8] rfl ?_
                    refine ih_40 (i + 1) (btsK (nI i) 8) wc (upd (g) (39) ((f 39) ||| (nI i))) (by omega) ?_ ?_ ?_ ?_
                    · omega
                    · simp only [fwM]; rw [← h_40_1]; exact absurd c_105 c_91
                    · intro v; rw [upd_tw]; exact h_40_2 v
                    · exact h_40_3
                · skip
                  refine v_iload (pc := 94) 1 dX5_fewest_94 rfl ?_
                  refine v_goto (pc := 96) 101 dX5_fewest_96 (by decide) ?_
                  refine v_istore (pc := 101) (lv' := [(6, .int (nI i)), (8, .int (if anyB (cbQ rl th (upd f 39 (f 39 ||| nI i)) n P) (2 ^ nt) = true then 1 else 0)), (7, .int (nI i)), (5, .int (fe)), (4, .int (f 39)), (0, .ref m0), (1, .int (n)), (2, .int (if P then 1 else 0)), (3, .int (wh))]) dX5_fewest_101 (by decide) rfl ?_
                  refine v_iload (pc := 103) 1 dX5_fewest_103 rfl ?_
                  refine v_ifB_eq (pc := 105) 116 dX5_fewest_105 (by decide) (fun c_105 => ?_) (fun c_105 => ?_)
                  · skip
                    refine v_iload (pc := 116) 3 dX5_fewest_116 rfl ?_
                    refine v_istore (pc := 118) (lv' := [(5, .int (fe)), (6, .int (nI i)), (8, .int (if anyB (cbQ rl th (upd f 39 (f 39 ||| nI i)) n P) (2 ^ nt) = true then 1 else 0)), (7, .int (nI i)), (4, .int (f 39)), (0, .ref m0), (1, .int (n)), (2, .int (if P then 1 else 0)), (3, .int (wh))]) dX5_fewest_118 (by decide) rfl ?_
                    refine v_iinc (pc := 120) (v := nI (i + 1)) (lv' := [(7, .int (nI (i + 1))), (5, .int (fe)), (6, .int (nI i)), (8, .int (if anyB (cbQ rl th (upd f 39 (f 39 ||| nI i)) n P) (2 ^ nt) = true then 1 else 0)), (4, .int (f 39)), (0, .ref m0), (1, .int (n)), (2, .int (if P then 1 else 0)), (3, .int (wh))]) 3 dX5_fewest_120 rfl (nI_inc (i) 1) (by decide) rfl ?_
                    refine v_goto (pc := 123) 40 dX5_fewest_123 (by decide) ?_
                    refine v_lv (lv' := [(7, .int (nI (i + 1))), (5, .int (fe)), (6, .int (nI i)), (4, .int (f 39)), (0, .ref m0), (1, .int (n)), (2, .int (if P then 1 else 0)), (3, .int (wh))]) [0, 1, 2, 4, 5, 6, 7, 8] rfl ?_
                    refine ih_40 (i + 1) fe (nI i) (upd (g) (39) ((f 39) ||| (nI i))) (by omega) ?_ ?_ ?_ ?_
                    · omega
                    · simp only [fwM]; rw [← h_40_1]; exact absurd c_91 c_105
                    · intro v; rw [upd_tw]; exact h_40_2 v
                    · exact h_40_3
                  · skip
                    refine v_iload (pc := 108) 2 dX5_fewest_108 rfl ?_
                    refine v_callS (pc := 110) (rest := []) [] lk_1105 (c_X5_bitsOf l E (nI i)) dX5_fewest_110 rfl rfl (Nat.le_of_ble_eq_true rfl) (by decide) (by decide) rfl (Rt.len rfl) (Rt.go ?_)
                    refine v_w (ws' := [(m0, .inr (5, [.ref ma, .int (nI nt), .int (nI pp), .int (th), .ref mp, .int (rn), .int (ro), .int (to), .int (wt), .int (hn), .int (ho), .ref mt, .int (nI tl), .int (fa), .int (bk), .int (ba), .int (spt), .int (hre), .int (tok), .int (val), .ref mc, .ref ml, .ref mn, .int (nI se), .ref mk, .ref mg, .ref mh, .ref mq, .int (tn)])), (ma, .inl (E.2.1 1, 172, .inl ((upd (g) (39) ((f 39) ||| (nI i))))))]) rfl ?_
                    refine v_st (st' := [.int (btsK (nI i) 8)]) rfl ?_
                    refine v_goto (pc := 113) 118 dX5_fewest_113 (by decide) ?_
                    refine v_istore (pc := 118) (lv' := [(5, .int (btsK (nI i) 8)), (6, .int (nI i)), (8, .int (if anyB (cbQ rl th (upd f 39 (f 39 ||| nI i)) n P) (2 ^ nt) = true then 1 else 0)), (7, .int (nI i)), (4, .int (f 39)), (0, .ref m0), (1, .int (n)), (2, .int (if P then 1 else 0)), (3, .int (wh))]) dX5_fewest_118 (by decide) rfl ?_
                    refine v_iinc (pc := 120) (v := nI (i + 1)) (lv' := [(7, .int (nI (i + 1))), (5, .int (btsK (nI i) 8)), (6, .int (nI i)), (8, .int (if anyB (cbQ rl th (upd f 39 (f 39 ||| nI i)) n P) (2 ^ nt) = true then 1 else 0)), (4, .int (f 39)), (0, .ref m0), (1, .int (n)), (2, .int (if P then 1 else 0)), (3, .int (wh))]) 3 dX5_fewest_120 rfl (nI_inc (i) 1) (by decide) rfl ?_
                    refine v_goto (pc := 123) 40 dX5_fewest_123 (by decide) ?_
                    refine v_lv (lv' := [(7, .int (nI (i + 1))), (5, .int (btsK (nI i) 8)), (6, .int (nI i)), (4, .int (f 39)), (0, .ref m0), (1, .int (n)), (2, .int (if P then 1 else 0)), (3, .int (wh))]) [0, 1, 2, 4, 5, 6, 7, 8] rfl ?_
                    refine ih_40 (i + 1) (btsK (nI i) 8) (nI i) (upd (g) (39) ((f 39) ||| (nI i))) (by omega) ?_ ?_ ?_ ?_
                    · omega
                    · simp only [fwM]; rw [← h_40_1]; rw [if_pos ⟨decide_eq_true_eq.mpr c_56, c_66, c_91⟩]
                    · intro v; rw [upd_tw]; exact h_40_2 v
                    · exact h_40_3
      refine v_lv (lv' := [(7, .int (nI 0)), (5, .int (100)), (6, .int (-4)), (4, .int (f 39)), (0, .ref m0), (1, .int (n)), (2, .int (if P then 1 else 0)), (3, .int (wh))]) [0, 2, 1, 3, 4, 5, 6, 7] rfl ?_
      refine loop_40 ((2 ^ pp - 0) + 1) 0 100 (-4) f (Nat.lt_succ_self _) ?_ ?_ ?_ ?_
      · omega
      · rfl
      · exact fun _ => rfl
      · exact h_38
    · skip
      refine v_iconst (pc := 18) (v := -1) dX5_fewest_18 (by decide) ?_
      refine v_iret (pc := 19) dX5_fewest_19 rfl ⟨rfl, rfl⟩ (Rt.i2 ?_ ?_)
      · skip
        rw [if_pos c_5, if_neg c_15]
      · skip
        rfl
theorem c_X5_police (l : Launch) (E : VE) (m0 : Nat) (ma : Nat) (mp : Nat) (mt : Nat) (mc : Nat) (ml : Nat) (mn : Nat) (mk : Nat) (mg : Nat) (mh : Nat) (mq : Nat) (nt : Nat) (pp : Nat) (rl : Nat) (tl : Nat) (se : Nat) (th : Int32) (rn : Int32) (ro : Int32) (to : Int32) (wt : Int32) (hn : Int32) (ho : Int32) (fa : Int32) (bk : Int32) (ba : Int32) (spt : Int32) (hre : Int32) (tok : Int32) (val : Int32) (tn : Int32) (f : Nat → Int32) (n : Int32) (wh : Int32) (h_rl : rl ≤ 8) (h_38 : f 38 = nI rl) (h_nt : nt ≤ 6) : Ct l E yX5_police cX5_police 8 (Option.some FieldType.int) 4 92 0 0 [.ref m0, .int (n), .int (wh)] [(m0, .inr (5, [.ref ma, .int (nI nt), .int (nI pp), .int (th), .ref mp, .int (rn), .int (ro), .int (to), .int (wt), .int (hn), .int (ho), .ref mt, .int (nI tl), .int (fa), .int (bk), .int (ba), .int (spt), .int (hre), .int (tok), .int (val), .ref mc, .ref ml, .ref mn, .int (nI se), .ref mk, .ref mg, .ref mh, .ref mq, .int (tn)])), (ma, .inl (E.2.1 1, 172, .inl (f)))] (Rt (some (.int (if okN n nt then (if ¬ wh < 0 ∧ ¬ 1 < wh then (if (fwM (fun s => decide (nI s &&& f 40 = 0 ∧ bt1 (nI s) n = 0)) (fun s => ! anyB (cbQ rl th (upd f 40 (f 40 ||| nI s)) n True) (2 ^ nt)) (2 ^ nt)).2 = -4 then (fwM (fun s => decide (nI s &&& f 40 = 0 ∧ bt1 (nI s) n = 0)) (fun s => ! anyB (cbQ rl th (upd f 40 (f 40 ||| nI s)) n True) (2 ^ nt)) (2 ^ nt)).2 else if wh = 1 then (fwM (fun s => decide (nI s &&& f 40 = 0 ∧ bt1 (nI s) n = 0)) (fun s => ! anyB (cbQ rl th (upd f 40 (f 40 ||| nI s)) n True) (2 ^ nt)) (2 ^ nt)).2 else (fwM (fun s => decide (nI s &&& f 40 = 0 ∧ bt1 (nI s) n = 0)) (fun s => ! anyB (cbQ rl th (upd f 40 (f 40 ||| nI s)) n True) (2 ^ nt)) (2 ^ nt)).1) else -1) else -1))) [(m0, .inr (5, [.ref ma, .int (nI nt), .int (nI pp), .int (th), .ref mp, .int (rn), .int (ro), .int (to), .int (wt), .int (hn), .int (ho), .ref mt, .int (nI tl), .int (fa), .int (bk), .int (ba), .int (spt), .int (hre), .int (tok), .int (val), .ref mc, .ref ml, .ref mn, .int (nI se), .ref mk, .ref mg, .ref mh, .ref mq, .int (tn)])), (ma, .inl (E.2.1 1, 172, .inl (f)))]) := by
  refine Ct.of (own := RX5) (nm := "police") (lv := [(0, .ref m0), (1, .int (n)), (2, .int (wh))]) (by decide) rfl rfl (Nat.le_of_ble_eq_true rfl) rfl ?_
  have h64 := p64 h_nt
  have h0p := p1 nt
  refine v_aload_n (pc := 0) 0 dX5_police_0 rfl rfl ?_
  refine v_iload_n (pc := 1) 1 dX5_police_1 rfl rfl ?_
  refine v_callV (pc := 2) (rest := []) [0] 0 lk_966 (c_X5_isNote l E m0 ma mp mt mc ml mn mk mg mh mq nt pp tl se th rn ro to wt hn ho fa bk ba spt hre tok val tn n (by first | assumption | omega)) dX5_police_2 rfl rfl (Nat.le_of_ble_eq_true rfl) (by decide) rfl rfl rfl (by decide) rfl (Rt.len rfl) (Rt.go ?_)
  refine v_w (ws' := [(m0, .inr (5, [.ref ma, .int (nI nt), .int (nI pp), .int (th), .ref mp, .int (rn), .int (ro), .int (to), .int (wt), .int (hn), .int (ho), .ref mt, .int (nI tl), .int (fa), .int (bk), .int (ba), .int (spt), .int (hre), .int (tok), .int (val), .ref mc, .ref ml, .ref mn, .int (nI se), .ref mk, .ref mg, .ref mh, .ref mq, .int (tn)])), (ma, .inl (E.2.1 1, 172, .inl (f)))]) rfl ?_
  refine v_st (st' := [.int (if okN n nt then 1 else 0)]) rfl ?_
  refine v_ifB_eq (pc := 5) 18 dX5_police_5 (by decide) (fun c_5 => ?_) (fun c_5 => ?_)
  · skip
    refine v_iconst (pc := 18) (v := -1) dX5_police_18 (by decide) ?_
    refine v_iret (pc := 19) dX5_police_19 rfl ⟨rfl, rfl⟩ (Rt.i2 ?_ ?_)
    · skip
      rw [if_neg c_5]
    · skip
      rfl
  · skip
    refine v_iload_n (pc := 8) 2 dX5_police_8 rfl rfl ?_
    refine v_i2l (pc := 9) dX5_police_9 ?_
    refine v_lconst (pc := 10) (v := 0) dX5_police_10 (by decide) ?_
    refine v_lconst (pc := 11) (v := 1) dX5_police_11 (by decide) ?_
    refine v_callS (pc := 12) (rest := []) [] lk_880 (c_X5_in l E (Int32.toInt64 (wh)) 0 1) dX5_police_12 rfl rfl (Nat.le_of_ble_eq_true rfl) (by decide) (by decide) rfl (Rt.len rfl) (Rt.go ?_)
    refine v_w (ws' := [(m0, .inr (5, [.ref ma, .int (nI nt), .int (nI pp), .int (th), .ref mp, .int (rn), .int (ro), .int (to), .int (wt), .int (hn), .int (ho), .ref mt, .int (nI tl), .int (fa), .int (bk), .int (ba), .int (spt), .int (hre), .int (tok), .int (val), .ref mc, .ref ml, .ref mn, .int (nI se), .ref mk, .ref mg, .ref mh, .ref mq, .int (tn)])), (ma, .inl (E.2.1 1, 172, .inl (f)))]) rfl ?_
    refine v_st (st' := [.int (if ¬ (Int32.toInt64 (wh)) < 0 ∧ ¬ 1 < (Int32.toInt64 (wh)) then 1 else 0)]) rfl ?_
    refine v_st (st' := [.int (if ¬ wh < 0 ∧ ¬ 1 < wh then 1 else 0)]) (ite_st (inK (a := 0) (b := 1)) _) ?_
    refine v_ifB_ne (pc := 15) 20 dX5_police_15 (by decide) (fun c_15 => ?_) (fun c_15 => ?_)
    · skip
      refine v_aload_n (pc := 20) 0 dX5_police_20 rfl rfl ?_
      refine gf_787 (pc := 21) 0 dX5_police_21 rfl rfl ?_
      refine v_bipush (pc := 24) (v := 40) dX5_police_24 (by decide) ?_
      refine v_ialdN (pc := 26) 1 1 (40) dX5_police_26 rfl rfl rfl (by decide) (by decide) ?_
      refine v_istore_n (pc := 27) (lv' := [(3, .int (f 40)), (0, .ref m0), (1, .int (n)), (2, .int (wh))]) dX5_police_27 rfl (by decide) rfl ?_
      refine v_bipush (pc := 28) (v := 100) dX5_police_28 (by decide) ?_
      refine v_istore (pc := 30) (lv' := [(4, .int (100)), (3, .int (f 40)), (0, .ref m0), (1, .int (n)), (2, .int (wh))]) dX5_police_30 (by decide) rfl ?_
      refine v_bipush (pc := 32) (v := -4) dX5_police_32 (by decide) ?_
      refine v_istore (pc := 34) (lv' := [(5, .int (-4)), (4, .int (100)), (3, .int (f 40)), (0, .ref m0), (1, .int (n)), (2, .int (wh))]) dX5_police_34 (by decide) rfl ?_
      refine v_iconst (pc := 36) (v := 0) dX5_police_36 (by decide) ?_
      refine v_istore (pc := 37) (lv' := [(6, .int (0)), (5, .int (-4)), (4, .int (100)), (3, .int (f 40)), (0, .ref m0), (1, .int (n)), (2, .int (wh))]) dX5_police_37 (by decide) rfl ?_
      have loop_39 : ∀ (D_39 : Nat) (i : Nat) (fe : Int32) (wc : Int32) (g : Nat → Int32), 2 ^ nt - i < D_39 → (i ≤ 2 ^ nt) → ((fe, wc) = fwM (fun s => decide (nI s &&& f 40 = 0 ∧ bt1 (nI s) n = 0)) (fun s => ! anyB (cbQ rl th (upd f 40 (f 40 ||| nI s)) n True) (2 ^ nt)) i) → (∀ v, upd g 40 v = upd f 40 v) → (g 38 = nI rl) → V l E RX5 cX5_police 8 (Option.some FieldType.int) "police" ({ frames := 4, cells := 0, slots := 0, locals := 92 }) [(m0, .inr (5, [.ref ma, .int (nI nt), .int (nI pp), .int (th), .ref mp, .int (rn), .int (ro), .int (to), .int (wt), .int (hn), .int (ho), .ref mt, .int (nI tl), .int (fa), .int (bk), .int (ba), .int (spt), .int (hre), .int (tok), .int (val), .ref mc, .ref ml, .ref mn, .int (nI se), .ref mk, .ref mg, .ref mh, .ref mq, .int (tn)])), (ma, .inl (E.2.1 1, 172, .inl (f)))] 0 0 (Rt (some (.int (if okN n nt then (if ¬ wh < 0 ∧ ¬ 1 < wh then (if (fwM (fun s => decide (nI s &&& f 40 = 0 ∧ bt1 (nI s) n = 0)) (fun s => ! anyB (cbQ rl th (upd f 40 (f 40 ||| nI s)) n True) (2 ^ nt)) (2 ^ nt)).2 = -4 then (fwM (fun s => decide (nI s &&& f 40 = 0 ∧ bt1 (nI s) n = 0)) (fun s => ! anyB (cbQ rl th (upd f 40 (f 40 ||| nI s)) n True) (2 ^ nt)) (2 ^ nt)).2 else if wh = 1 then (fwM (fun s => decide (nI s &&& f 40 = 0 ∧ bt1 (nI s) n = 0)) (fun s => ! anyB (cbQ rl th (upd f 40 (f 40 ||| nI s)) n True) (2 ^ nt)) (2 ^ nt)).2 else (fwM (fun s => decide (nI s &&& f 40 = 0 ∧ bt1 (nI s) n = 0)) (fun s => ! anyB (cbQ rl th (upd f 40 (f 40 ||| nI s)) n True) (2 ^ nt)) (2 ^ nt)).1) else -1) else -1))) [(m0, .inr (5, [.ref ma, .int (nI nt), .int (nI pp), .int (th), .ref mp, .int (rn), .int (ro), .int (to), .int (wt), .int (hn), .int (ho), .ref mt, .int (nI tl), .int (fa), .int (bk), .int (ba), .int (spt), .int (hre), .int (tok), .int (val), .ref mc, .ref ml, .ref mn, .int (nI se), .ref mk, .ref mg, .ref mh, .ref mq, .int (tn)])), (ma, .inl (E.2.1 1, 172, .inl (f)))]) 0 0 39 [(6, .int (nI i)), (4, .int (fe)), (5, .int (wc)), (3, .int (f 40)), (0, .ref m0), (1, .int (n)), (2, .int (wh))] [] [(m0, .inr (5, [.ref ma, .int (nI nt), .int (nI pp), .int (th), .ref mp, .int (rn), .int (ro), .int (to), .int (wt), .int (hn), .int (ho), .ref mt, .int (nI tl), .int (fa), .int (bk), .int (ba), .int (spt), .int (hre), .int (tok), .int (val), .ref mc, .ref ml, .ref mn, .int (nI se), .ref mk, .ref mg, .ref mh, .ref mq, .int (tn)])), (ma, .inl (E.2.1 1, 172, .inl (g)))] := by
        intro D_39
        induction D_39 with
        | zero => intro i fe wc g h; exact absurd h (Nat.not_lt_zero _)
        | succ D_39 ih_39 =>
          intro i fe wc g hmu_39 h_39_0 h_39_1 h_39_2 h_39_3
          refine v_iload (pc := 39) 0 dX5_police_39 rfl ?_
          refine v_aload_n (pc := 41) 4 dX5_police_41 rfl rfl ?_
          refine v_callV (pc := 42) (rest := [.int (nI i)]) [0] 0 lk_1024 (c_X5_sets l E m0 ma mp mt mc ml mn mk mg mh mq nt pp tl se th rn ro to wt hn ho fa bk ba spt hre tok val tn (by first | assumption | omega)) dX5_police_42 rfl rfl (Nat.le_of_ble_eq_true rfl) (by decide) rfl rfl rfl (by decide) rfl (Rt.len rfl) (Rt.go ?_)
          refine v_w (ws' := [(m0, .inr (5, [.ref ma, .int (nI nt), .int (nI pp), .int (th), .ref mp, .int (rn), .int (ro), .int (to), .int (wt), .int (hn), .int (ho), .ref mt, .int (nI tl), .int (fa), .int (bk), .int (ba), .int (spt), .int (hre), .int (tok), .int (val), .ref mc, .ref ml, .ref mn, .int (nI se), .ref mk, .ref mg, .ref mh, .ref mq, .int (tn)])), (ma, .inl (E.2.1 1, 172, .inl (g)))]) rfl ?_
          refine v_st (st' := [.int (nI (2 ^ nt)), .int (nI i)]) rfl ?_
          refine v_cmpN_ge (pc := 45) (a := i) (b := 2 ^ nt) 138 dX5_police_45 (by decide) (by omega) (by omega) (fun c_45 => ?_) (fun c_45 => ?_)
          · skip
            have hgf : upd g 40 (f 40) = f := by rw [h_39_2, upd_sm]
            refine v_aload_n (pc := 138) 4 dX5_police_138 rfl rfl ?_
            refine gf_787 (pc := 139) 0 dX5_police_139 rfl rfl ?_
            refine v_bipush (pc := 142) (v := 40) dX5_police_142 (by decide) ?_
            refine v_iload_n (pc := 144) 3 dX5_police_144 rfl rfl ?_
            refine v_iastN (pc := 145) (ws' := [(m0, .inr (5, [.ref ma, .int (nI nt), .int (nI pp), .int (th), .ref mp, .int (rn), .int (ro), .int (to), .int (wt), .int (hn), .int (ho), .ref mt, .int (nI tl), .int (fa), .int (bk), .int (ba), .int (spt), .int (hre), .int (tok), .int (val), .ref mc, .ref ml, .ref mn, .int (nI se), .ref mk, .ref mg, .ref mh, .ref mq, .int (tn)])), (ma, .inl (E.2.1 1, 172, .inl (upd (g) (40) (f 40))))]) 1 1 (40) dX5_police_145 rfl rfl rfl (by decide) (by decide) rfl ?_
            refine v_iload (pc := 146) 2 dX5_police_146 rfl ?_
            refine v_bipush (pc := 148) (v := -4) dX5_police_148 (by decide) ?_
            refine v_icmp_eq (pc := 150) 158 dX5_police_150 (by decide) (fun c_150 => ?_) (fun c_150 => ?_)
            · skip
              refine v_iload (pc := 158) 2 dX5_police_158 rfl ?_
              refine v_goto (pc := 160) 165 dX5_police_160 (by decide) ?_
              refine v_iret (pc := 165) dX5_police_165 rfl ⟨rfl, rfl⟩ (Rt.i2 ?_ ?_)
              · skip
                obtain rfl : i = 2 ^ nt := by omega
                rw [if_pos c_5, if_pos c_15, ← h_39_1, if_pos c_150]
              · skip
                rw [hgf]
            · skip
              refine v_iload_n (pc := 153) 6 dX5_police_153 rfl rfl ?_
              refine v_iconst (pc := 154) (v := 1) dX5_police_154 (by decide) ?_
              refine v_icmp_ne (pc := 155) 163 dX5_police_155 (by decide) (fun c_155 => ?_) (fun c_155 => ?_)
              · skip
                refine v_iload (pc := 163) 1 dX5_police_163 rfl ?_
                refine v_iret (pc := 165) dX5_police_165 rfl ⟨rfl, rfl⟩ (Rt.i2 ?_ ?_)
                · skip
                  obtain rfl : i = 2 ^ nt := by omega
                  rw [if_pos c_5, if_pos c_15, ← h_39_1, if_neg c_150, if_neg c_155]
                · skip
                  rw [hgf]
              · skip
                refine v_iload (pc := 158) 2 dX5_police_158 rfl ?_
                refine v_goto (pc := 160) 165 dX5_police_160 (by decide) ?_
                refine v_iret (pc := 165) dX5_police_165 rfl ⟨rfl, rfl⟩ (Rt.i2 ?_ ?_)
                · skip
                  obtain rfl : i = 2 ^ nt := by omega
                  rw [if_pos c_5, if_pos c_15, ← h_39_1, if_neg c_150, if_pos c_155]
                · skip
                  rw [hgf]
          · skip
            refine v_iload (pc := 48) 0 dX5_police_48 rfl ?_
            refine v_iload_n (pc := 50) 3 dX5_police_50 rfl rfl ?_
            refine v_iand (pc := 51) dX5_police_51 ?_
            refine v_if_ne (pc := 52) 132 dX5_police_52 (by decide) (fun c_52 => ?_) (fun c_52 => ?_)
            · skip
              refine v_iinc (pc := 132) (v := nI (i + 1)) (lv' := [(6, .int (nI (i + 1))), (4, .int (fe)), (5, .int (wc)), (3, .int (f 40)), (0, .ref m0), (1, .int (n)), (2, .int (wh))]) 0 dX5_police_132 rfl (nI_inc (i) 1) (by decide) rfl ?_
              refine v_goto (pc := 135) 39 dX5_police_135 (by decide) ?_
              refine v_lv (lv' := [(6, .int (nI (i + 1))), (4, .int (fe)), (5, .int (wc)), (3, .int (f 40)), (0, .ref m0), (1, .int (n)), (2, .int (wh))]) [0, 1, 2, 3, 4, 5, 6] rfl ?_
              refine ih_39 (i + 1) fe wc g (by omega) ?_ ?_ ?_ ?_
              · omega
              · simp only [fwM]; rw [← h_39_1]; rw [if_neg (fun q => c_52 (decide_eq_true_eq.mp q.1).1)]
              · exact h_39_2
              · exact h_39_3
            · skip
              refine v_iload (pc := 55) 0 dX5_police_55 rfl ?_
              refine v_iload_n (pc := 57) 5 dX5_police_57 rfl rfl ?_
              refine v_ishr (pc := 58) dX5_police_58 ?_
              refine v_iconst (pc := 59) (v := 1) dX5_police_59 (by decide) ?_
              refine v_iand (pc := 60) dX5_police_60 ?_
              refine v_if_ne (pc := 61) 132 dX5_police_61 (by decide) (fun c_61 => ?_) (fun c_61 => ?_)
              · skip
                refine v_iinc (pc := 132) (v := nI (i + 1)) (lv' := [(6, .int (nI (i + 1))), (4, .int (fe)), (5, .int (wc)), (3, .int (f 40)), (0, .ref m0), (1, .int (n)), (2, .int (wh))]) 0 dX5_police_132 rfl (nI_inc (i) 1) (by decide) rfl ?_
                refine v_goto (pc := 135) 39 dX5_police_135 (by decide) ?_
                refine v_lv (lv' := [(6, .int (nI (i + 1))), (4, .int (fe)), (5, .int (wc)), (3, .int (f 40)), (0, .ref m0), (1, .int (n)), (2, .int (wh))]) [0, 1, 2, 3, 4, 5, 6] rfl ?_
                refine ih_39 (i + 1) fe wc g (by omega) ?_ ?_ ?_ ?_
                · omega
                · simp only [fwM]; rw [← h_39_1]; rw [if_neg (fun q => c_61 (decide_eq_true_eq.mp q.1).2)]
                · exact h_39_2
                · exact h_39_3
              · skip
                refine v_iload (pc := 64) 0 dX5_police_64 rfl ?_
                refine v_callS (pc := 66) (rest := []) [] lk_1105 (c_X5_bitsOf l E (nI i)) dX5_police_66 rfl rfl (Nat.le_of_ble_eq_true rfl) (by decide) (by decide) rfl (Rt.len rfl) (Rt.go ?_)
                refine v_w (ws' := [(m0, .inr (5, [.ref ma, .int (nI nt), .int (nI pp), .int (th), .ref mp, .int (rn), .int (ro), .int (to), .int (wt), .int (hn), .int (ho), .ref mt, .int (nI tl), .int (fa), .int (bk), .int (ba), .int (spt), .int (hre), .int (tok), .int (val), .ref mc, .ref ml, .ref mn, .int (nI se), .ref mk, .ref mg, .ref mh, .ref mq, .int (tn)])), (ma, .inl (E.2.1 1, 172, .inl (g)))]) rfl ?_
                refine v_st (st' := [.int (btsK (nI i) 8)]) rfl ?_
                refine v_iload (pc := 69) 1 dX5_police_69 rfl ?_
                refine v_icmp_ge (pc := 71) 132 dX5_police_71 (by decide) (fun c_71 => ?_) (fun c_71 => ?_)
                · skip
                  refine v_iinc (pc := 132) (v := nI (i + 1)) (lv' := [(6, .int (nI (i + 1))), (4, .int (fe)), (5, .int (wc)), (3, .int (f 40)), (0, .ref m0), (1, .int (n)), (2, .int (wh))]) 0 dX5_police_132 rfl (nI_inc (i) 1) (by decide) rfl ?_
                  refine v_goto (pc := 135) 39 dX5_police_135 (by decide) ?_
                  refine v_lv (lv' := [(6, .int (nI (i + 1))), (4, .int (fe)), (5, .int (wc)), (3, .int (f 40)), (0, .ref m0), (1, .int (n)), (2, .int (wh))]) [0, 1, 2, 3, 4, 5, 6] rfl ?_
                  refine ih_39 (i + 1) fe wc g (by omega) ?_ ?_ ?_ ?_
                  · omega
                  · simp only [fwM]; rw [← h_39_1]; rw [if_neg (fun q => q.2.1 c_71)]
                  · exact h_39_2
                  · exact h_39_3
                · skip
                  refine v_aload_n (pc := 74) 4 dX5_police_74 rfl rfl ?_
                  refine gf_787 (pc := 75) 0 dX5_police_75 rfl rfl ?_
                  refine v_bipush (pc := 78) (v := 40) dX5_police_78 (by decide) ?_
                  refine v_iload_n (pc := 80) 3 dX5_police_80 rfl rfl ?_
                  refine v_iload (pc := 81) 0 dX5_police_81 rfl ?_
                  refine v_ior (pc := 83) dX5_police_83 ?_
                  refine v_iastN (pc := 84) (ws' := [(m0, .inr (5, [.ref ma, .int (nI nt), .int (nI pp), .int (th), .ref mp, .int (rn), .int (ro), .int (to), .int (wt), .int (hn), .int (ho), .ref mt, .int (nI tl), .int (fa), .int (bk), .int (ba), .int (spt), .int (hre), .int (tok), .int (val), .ref mc, .ref ml, .ref mn, .int (nI se), .ref mk, .ref mg, .ref mh, .ref mq, .int (tn)])), (ma, .inl (E.2.1 1, 172, .inl (upd (g) (40) ((f 40) ||| (nI i)))))]) 1 1 (40) dX5_police_84 rfl rfl rfl (by decide) (by decide) rfl ?_
                  refine v_aload_n (pc := 85) 4 dX5_police_85 rfl rfl ?_
                  refine v_iload_n (pc := 86) 5 dX5_police_86 rfl rfl ?_
                  refine v_iconst (pc := 87) (v := 1) dX5_police_87 (by decide) ?_
                  refine v_callV (pc := 88) (rest := []) [0, 1] 0 lk_1108 (c_X5_canBe l E m0 ma mp mt mc ml mn mk mg mh mq nt pp rl tl se th rn ro to wt hn ho fa bk ba spt hre tok val tn (upd (g) (40) ((f 40) ||| (nI i))) n True inferInstance (by first | assumption | omega) h_39_3 (by first | assumption | omega)) dX5_police_88 rfl rfl (Nat.le_of_ble_eq_true rfl) (by decide) rfl rfl rfl (by decide) rfl (Rt.len rfl) (Rt.go ?_)
                  refine v_w (ws' := [(m0, .inr (5, [.ref ma, .int (nI nt), .int (nI pp), .int (th), .ref mp, .int (rn), .int (ro), .int (to), .int (wt), .int (hn), .int (ho), .ref mt, .int (nI tl), .int (fa), .int (bk), .int (ba), .int (spt), .int (hre), .int (tok), .int (val), .ref mc, .ref ml, .ref mn, .int (nI se), .ref mk, .ref mg, .ref mh, .ref mq, .int (tn)])), (ma, .inl (E.2.1 1, 172, .inl ((upd (g) (40) ((f 40) ||| (nI i))))))]) rfl ?_
                  refine v_st (st' := [.int (if anyB (cbQ rl th (upd (g) (40) ((f 40) ||| (nI i))) n True) (2 ^ nt) = true then 1 else 0)]) rfl ?_
                  refine v_st (st' := [.int (if anyB (cbQ rl th (upd f 40 (f 40 ||| nI i)) n True) (2 ^ nt) = true then 1 else 0)]) (by rw [h_39_2]) ?_
                  refine v_ifB_ne (pc := 91) 98 dX5_police_91 (by decide) (fun c_91 => ?_) (fun c_91 => ?_)
                  · skip
                    refine v_iconst (pc := 98) (v := 0) dX5_police_98 (by decide) ?_
                    refine v_istore (pc := 99) (lv' := [(7, .int (0)), (6, .int (nI i)), (4, .int (fe)), (5, .int (wc)), (3, .int (f 40)), (0, .ref m0), (1, .int (n)), (2, .int (wh))]) dX5_police_99 (by decide) rfl ?_
                    refine v_iload (pc := 101) 0 dX5_police_101 rfl ?_
                    refine v_if_eq (pc := 103) 111 dX5_police_103 (by decide) (fun _ => ?_) (fun c => absurd c (by decide))
                    refine v_iload (pc := 111) 3 dX5_police_111 rfl ?_
                    refine v_istore (pc := 113) (lv' := [(5, .int (wc)), (7, .int (0)), (6, .int (nI i)), (4, .int (fe)), (3, .int (f 40)), (0, .ref m0), (1, .int (n)), (2, .int (wh))]) dX5_police_113 (by decide) rfl ?_
                    refine v_iload (pc := 115) 1 dX5_police_115 rfl ?_
                    refine v_if_eq (pc := 117) 128 dX5_police_117 (by decide) (fun _ => ?_) (fun c => absurd c (by decide))
                    refine v_iload (pc := 128) 3 dX5_police_128 rfl ?_
                    refine v_istore (pc := 130) (lv' := [(4, .int (fe)), (5, .int (wc)), (7, .int (0)), (6, .int (nI i)), (3, .int (f 40)), (0, .ref m0), (1, .int (n)), (2, .int (wh))]) dX5_police_130 (by decide) rfl ?_
                    refine v_iinc (pc := 132) (v := nI (i + 1)) (lv' := [(6, .int (nI (i + 1))), (4, .int (fe)), (5, .int (wc)), (7, .int (0)), (3, .int (f 40)), (0, .ref m0), (1, .int (n)), (2, .int (wh))]) 3 dX5_police_132 rfl (nI_inc (i) 1) (by decide) rfl ?_
                    refine v_goto (pc := 135) 39 dX5_police_135 (by decide) ?_
                    refine v_lv (lv' := [(6, .int (nI (i + 1))), (4, .int (fe)), (5, .int (wc)), (3, .int (f 40)), (0, .ref m0), (1, .int (n)), (2, .int (wh))]) [0, 1, 2, 4, 5, 6, 7] rfl ?_
                    refine ih_39 (i + 1) fe wc (upd (g) (40) ((f 40) ||| (nI i))) (by omega) ?_ ?_ ?_ ?_
                    · omega
                    · simp only [fwM]; rw [← h_39_1]; rw [if_neg (fun q => by rw [c_91] at q; exact absurd q.2.2 (by decide))]
                    · intro v; rw [upd_tw]; exact h_39_2 v
                    · exact h_39_3
                  · skip
                    refine v_iconst (pc := 94) (v := 1) dX5_police_94 (by decide) ?_
                    refine v_goto (pc := 95) 99 dX5_police_95 (by decide) ?_
                    refine v_istore (pc := 99) (lv' := [(7, .int (1)), (6, .int (nI i)), (4, .int (fe)), (5, .int (wc)), (3, .int (f 40)), (0, .ref m0), (1, .int (n)), (2, .int (wh))]) dX5_police_99 (by decide) rfl ?_
                    refine v_iload (pc := 101) 0 dX5_police_101 rfl ?_
                    refine v_if_eq (pc := 103) 111 dX5_police_103 (by decide) (fun c => absurd c (by decide)) (fun _ => ?_)
                    refine v_iload (pc := 106) 1 dX5_police_106 rfl ?_
                    refine v_goto (pc := 108) 113 dX5_police_108 (by decide) ?_
                    refine v_istore (pc := 113) (lv' := [(5, .int (nI i)), (7, .int (1)), (6, .int (nI i)), (4, .int (fe)), (3, .int (f 40)), (0, .ref m0), (1, .int (n)), (2, .int (wh))]) dX5_police_113 (by decide) rfl ?_
                    refine v_iload (pc := 115) 1 dX5_police_115 rfl ?_
                    refine v_if_eq (pc := 117) 128 dX5_police_117 (by decide) (fun c => absurd c (by decide)) (fun _ => ?_)
                    refine v_iload (pc := 120) 2 dX5_police_120 rfl ?_
                    refine v_callS (pc := 122) (rest := []) [] lk_1105 (c_X5_bitsOf l E (nI i)) dX5_police_122 rfl rfl (Nat.le_of_ble_eq_true rfl) (by decide) (by decide) rfl (Rt.len rfl) (Rt.go ?_)
                    refine v_w (ws' := [(m0, .inr (5, [.ref ma, .int (nI nt), .int (nI pp), .int (th), .ref mp, .int (rn), .int (ro), .int (to), .int (wt), .int (hn), .int (ho), .ref mt, .int (nI tl), .int (fa), .int (bk), .int (ba), .int (spt), .int (hre), .int (tok), .int (val), .ref mc, .ref ml, .ref mn, .int (nI se), .ref mk, .ref mg, .ref mh, .ref mq, .int (tn)])), (ma, .inl (E.2.1 1, 172, .inl ((upd (g) (40) ((f 40) ||| (nI i))))))]) rfl ?_
                    refine v_st (st' := [.int (btsK (nI i) 8)]) rfl ?_
                    refine v_goto (pc := 125) 130 dX5_police_125 (by decide) ?_
                    refine v_istore (pc := 130) (lv' := [(4, .int (btsK (nI i) 8)), (5, .int (nI i)), (7, .int (1)), (6, .int (nI i)), (3, .int (f 40)), (0, .ref m0), (1, .int (n)), (2, .int (wh))]) dX5_police_130 (by decide) rfl ?_
                    refine v_iinc (pc := 132) (v := nI (i + 1)) (lv' := [(6, .int (nI (i + 1))), (4, .int (btsK (nI i) 8)), (5, .int (nI i)), (7, .int (1)), (3, .int (f 40)), (0, .ref m0), (1, .int (n)), (2, .int (wh))]) 3 dX5_police_132 rfl (nI_inc (i) 1) (by decide) rfl ?_
                    refine v_goto (pc := 135) 39 dX5_police_135 (by decide) ?_
                    refine v_lv (lv' := [(6, .int (nI (i + 1))), (4, .int (btsK (nI i) 8)), (5, .int (nI i)), (3, .int (f 40)), (0, .ref m0), (1, .int (n)), (2, .int (wh))]) [0, 1, 2, 4, 5, 6, 7] rfl ?_
                    refine ih_39 (i + 1) (btsK (nI i) 8) (nI i) (upd (g) (40) ((f 40) ||| (nI i))) (by omega) ?_ ?_ ?_ ?_
                    · omega
                    · simp only [fwM]; rw [← h_39_1]; rw [if_pos ⟨decide_eq_true_eq.mpr ⟨c_52, c_61⟩, c_71, (by rw [Bool.eq_false_iff.mpr c_91]; rfl)⟩]
                    · intro v; rw [upd_tw]; exact h_39_2 v
                    · exact h_39_3
      refine v_lv (lv' := [(6, .int (nI 0)), (4, .int (100)), (5, .int (-4)), (3, .int (f 40)), (0, .ref m0), (1, .int (n)), (2, .int (wh))]) [0, 2, 1, 3, 4, 5, 6] rfl ?_
      refine loop_39 ((2 ^ nt - 0) + 1) 0 100 (-4) f (Nat.lt_succ_self _) ?_ ?_ ?_ ?_
      · omega
      · rfl
      · exact fun _ => rfl
      · exact h_38
    · skip
      refine v_iconst (pc := 18) (v := -1) dX5_police_18 (by decide) ?_
      refine v_iret (pc := 19) dX5_police_19 rfl ⟨rfl, rfl⟩ (Rt.i2 ?_ ?_)
      · skip
        rw [if_pos c_5, if_neg c_15]
      · skip
        rfl
theorem c_X5_comes (l : Launch) (E : VE) (m0 : Nat) (ma : Nat) (mp : Nat) (mt : Nat) (mc : Nat) (ml : Nat) (mn : Nat) (mk : Nat) (mg : Nat) (mh : Nat) (mq : Nat) (nt : Nat) (pp : Nat) (rl : Nat) (tl : Nat) (se : Nat) (th : Int32) (rn : Int32) (ro : Int32) (to : Int32) (wt : Int32) (hn : Int32) (ho : Int32) (fa : Int32) (bk : Int32) (ba : Int32) (spt : Int32) (hre : Int32) (tok : Int32) (val : Int32) (tn : Int32) (f : Nat → Int32) (h_rl : rl ≤ 8) (h_38 : f 38 = nI rl) (h_nt : nt ≤ 6) : Ct l E yX5_comes cX5_comes 6 (Option.some FieldType.int) 3 68 0 0 [.ref m0] [(m0, .inr (5, [.ref ma, .int (nI nt), .int (nI pp), .int (th), .ref mp, .int (rn), .int (ro), .int (to), .int (wt), .int (hn), .int (ho), .ref mt, .int (nI tl), .int (fa), .int (bk), .int (ba), .int (spt), .int (hre), .int (tok), .int (val), .ref mc, .ref ml, .ref mn, .int (nI se), .ref mk, .ref mg, .ref mh, .ref mq, .int (tn)])), (ma, .inl (E.2.1 1, 172, .inl (f)))] (Rt (some (.int ((coM (agM rl th f) (fun s => btsK (nI s ^^^ f 41) 8) (2 ^ nt)).2))) [(m0, .inr (5, [.ref ma, .int (nI nt), .int (nI pp), .int (th), .ref mp, .int (rn), .int (ro), .int (to), .int (wt), .int (hn), .int (ho), .ref mt, .int (nI tl), .int (fa), .int (bk), .int (ba), .int (spt), .int (hre), .int (tok), .int (val), .ref mc, .ref ml, .ref mn, .int (nI se), .ref mk, .ref mg, .ref mh, .ref mq, .int (tn)])), (ma, .inl (E.2.1 1, 172, .inl (f)))]) := by
  refine Ct.of (own := RX5) (nm := "comes") (lv := [(0, .ref m0)]) (by decide) rfl rfl (Nat.le_of_ble_eq_true rfl) rfl ?_
  have h64 := p64 h_nt
  have h0p := p1 nt
  refine v_bipush (pc := 0) (v := 100) dX5_comes_0 (by decide) ?_
  refine v_istore_n (pc := 2) (lv' := [(1, .int (100)), (0, .ref m0)]) dX5_comes_2 rfl (by decide) rfl ?_
  refine v_bipush (pc := 3) (v := -4) dX5_comes_3 (by decide) ?_
  refine v_istore_n (pc := 5) (lv' := [(2, .int (-4)), (1, .int (100)), (0, .ref m0)]) dX5_comes_5 rfl (by decide) rfl ?_
  refine v_iconst (pc := 6) (v := 0) dX5_comes_6 (by decide) ?_
  refine v_istore_n (pc := 7) (lv' := [(3, .int (0)), (2, .int (-4)), (1, .int (100)), (0, .ref m0)]) dX5_comes_7 rfl (by decide) rfl ?_
  have loop_8 : ∀ (D_8 : Nat) (i : Nat) (fe : Int32) (wc : Int32), 2 ^ nt - i < D_8 → (i ≤ 2 ^ nt) → ((fe, wc) = coM (agM rl th f) (fun s => btsK (nI s ^^^ f 41) 8) i) → V l E RX5 cX5_comes 6 (Option.some FieldType.int) "comes" ({ frames := 3, cells := 0, slots := 0, locals := 68 }) [(m0, .inr (5, [.ref ma, .int (nI nt), .int (nI pp), .int (th), .ref mp, .int (rn), .int (ro), .int (to), .int (wt), .int (hn), .int (ho), .ref mt, .int (nI tl), .int (fa), .int (bk), .int (ba), .int (spt), .int (hre), .int (tok), .int (val), .ref mc, .ref ml, .ref mn, .int (nI se), .ref mk, .ref mg, .ref mh, .ref mq, .int (tn)])), (ma, .inl (E.2.1 1, 172, .inl (f)))] 0 0 (Rt (some (.int ((coM (agM rl th f) (fun s => btsK (nI s ^^^ f 41) 8) (2 ^ nt)).2))) [(m0, .inr (5, [.ref ma, .int (nI nt), .int (nI pp), .int (th), .ref mp, .int (rn), .int (ro), .int (to), .int (wt), .int (hn), .int (ho), .ref mt, .int (nI tl), .int (fa), .int (bk), .int (ba), .int (spt), .int (hre), .int (tok), .int (val), .ref mc, .ref ml, .ref mn, .int (nI se), .ref mk, .ref mg, .ref mh, .ref mq, .int (tn)])), (ma, .inl (E.2.1 1, 172, .inl (f)))]) 0 0 8 [(3, .int (nI i)), (1, .int (fe)), (2, .int (wc)), (0, .ref m0)] [] [(m0, .inr (5, [.ref ma, .int (nI nt), .int (nI pp), .int (th), .ref mp, .int (rn), .int (ro), .int (to), .int (wt), .int (hn), .int (ho), .ref mt, .int (nI tl), .int (fa), .int (bk), .int (ba), .int (spt), .int (hre), .int (tok), .int (val), .ref mc, .ref ml, .ref mn, .int (nI se), .ref mk, .ref mg, .ref mh, .ref mq, .int (tn)])), (ma, .inl (E.2.1 1, 172, .inl (f)))] := by
    intro D_8
    induction D_8 with
    | zero => intro i fe wc h; exact absurd h (Nat.not_lt_zero _)
    | succ D_8 ih_8 =>
      intro i fe wc hmu_8 h_8_0 h_8_1
      refine v_iload_n (pc := 8) 0 dX5_comes_8 rfl rfl ?_
      refine v_aload_n (pc := 9) 3 dX5_comes_9 rfl rfl ?_
      refine v_callV (pc := 10) (rest := [.int (nI i)]) [0] 0 lk_1024 (c_X5_sets l E m0 ma mp mt mc ml mn mk mg mh mq nt pp tl se th rn ro to wt hn ho fa bk ba spt hre tok val tn (by first | assumption | omega)) dX5_comes_10 rfl rfl (Nat.le_of_ble_eq_true rfl) (by decide) rfl rfl rfl (by decide) rfl (Rt.len rfl) (Rt.go ?_)
      refine v_w (ws' := [(m0, .inr (5, [.ref ma, .int (nI nt), .int (nI pp), .int (th), .ref mp, .int (rn), .int (ro), .int (to), .int (wt), .int (hn), .int (ho), .ref mt, .int (nI tl), .int (fa), .int (bk), .int (ba), .int (spt), .int (hre), .int (tok), .int (val), .ref mc, .ref ml, .ref mn, .int (nI se), .ref mk, .ref mg, .ref mh, .ref mq, .int (tn)])), (ma, .inl (E.2.1 1, 172, .inl (f)))]) rfl ?_
      refine v_st (st' := [.int (nI (2 ^ nt)), .int (nI i)]) rfl ?_
      refine v_cmpN_ge (pc := 13) (a := i) (b := 2 ^ nt) 80 dX5_comes_13 (by decide) (by omega) (by omega) (fun c_13 => ?_) (fun c_13 => ?_)
      · skip
        refine v_iload_n (pc := 80) 2 dX5_comes_80 rfl rfl ?_
        refine v_iret (pc := 81) dX5_comes_81 rfl ⟨rfl, rfl⟩ (Rt.i ?_)
        obtain rfl : i = 2 ^ nt := by omega
        rw [← h_8_1]
      · skip
        refine v_iload_n (pc := 16) 0 dX5_comes_16 rfl rfl ?_
        refine v_aload_n (pc := 17) 3 dX5_comes_17 rfl rfl ?_
        refine gf_787 (pc := 18) 0 dX5_comes_18 rfl rfl ?_
        refine v_bipush (pc := 21) (v := 41) dX5_comes_21 (by decide) ?_
        refine v_ialdN (pc := 23) 1 1 (41) dX5_comes_23 rfl rfl rfl (by decide) (by decide) ?_
        refine v_ixor (pc := 24) dX5_comes_24 ?_
        refine v_callS (pc := 25) (rest := []) [] lk_1105 (c_X5_bitsOf l E ((nI i) ^^^ (f 41))) dX5_comes_25 rfl rfl (Nat.le_of_ble_eq_true rfl) (by decide) (by decide) rfl (Rt.len rfl) (Rt.go ?_)
        refine v_w (ws' := [(m0, .inr (5, [.ref ma, .int (nI nt), .int (nI pp), .int (th), .ref mp, .int (rn), .int (ro), .int (to), .int (wt), .int (hn), .int (ho), .ref mt, .int (nI tl), .int (fa), .int (bk), .int (ba), .int (spt), .int (hre), .int (tok), .int (val), .ref mc, .ref ml, .ref mn, .int (nI se), .ref mk, .ref mg, .ref mh, .ref mq, .int (tn)])), (ma, .inl (E.2.1 1, 172, .inl (f)))]) rfl ?_
        refine v_st (st' := [.int (btsK ((nI i) ^^^ (f 41)) 8)]) rfl ?_
        refine v_istore (pc := 28) (lv' := [(4, .int (btsK ((nI i) ^^^ (f 41)) 8)), (3, .int (nI i)), (1, .int (fe)), (2, .int (wc)), (0, .ref m0)]) dX5_comes_28 (by decide) rfl ?_
        refine v_iload (pc := 30) 0 dX5_comes_30 rfl ?_
        refine v_iload_n (pc := 32) 2 dX5_comes_32 rfl rfl ?_
        refine v_icmp_ge (pc := 33) 48 dX5_comes_33 (by decide) (fun c_33 => ?_) (fun c_33 => ?_)
        · skip
          refine v_iconst (pc := 48) (v := 0) dX5_comes_48 (by decide) ?_
          refine v_istore (pc := 49) (lv' := [(5, .int (0)), (4, .int (btsK ((nI i) ^^^ (f 41)) 8)), (3, .int (nI i)), (1, .int (fe)), (2, .int (wc)), (0, .ref m0)]) dX5_comes_49 (by decide) rfl ?_
          refine v_iload (pc := 51) 0 dX5_comes_51 rfl ?_
          refine v_if_eq (pc := 53) 60 dX5_comes_53 (by decide) (fun _ => ?_) (fun c => absurd c (by decide))
          refine v_iload_n (pc := 60) 4 dX5_comes_60 rfl rfl ?_
          refine v_istore_n (pc := 61) (lv' := [(2, .int (wc)), (5, .int (0)), (4, .int (btsK ((nI i) ^^^ (f 41)) 8)), (3, .int (nI i)), (1, .int (fe)), (0, .ref m0)]) dX5_comes_61 rfl (by decide) rfl ?_
          refine v_iload (pc := 62) 1 dX5_comes_62 rfl ?_
          refine v_if_eq (pc := 64) 72 dX5_comes_64 (by decide) (fun _ => ?_) (fun c => absurd c (by decide))
          refine v_iload_n (pc := 72) 4 dX5_comes_72 rfl rfl ?_
          refine v_istore_n (pc := 73) (lv' := [(1, .int (fe)), (2, .int (wc)), (5, .int (0)), (4, .int (btsK ((nI i) ^^^ (f 41)) 8)), (3, .int (nI i)), (0, .ref m0)]) dX5_comes_73 rfl (by decide) rfl ?_
          refine v_iinc (pc := 74) (v := nI (i + 1)) (lv' := [(3, .int (nI (i + 1))), (1, .int (fe)), (2, .int (wc)), (5, .int (0)), (4, .int (btsK ((nI i) ^^^ (f 41)) 8)), (0, .ref m0)]) 4 dX5_comes_74 rfl (nI_inc (i) 1) (by decide) rfl ?_
          refine v_goto (pc := 77) 8 dX5_comes_77 (by decide) ?_
          refine v_lv (lv' := [(3, .int (nI (i + 1))), (1, .int (fe)), (2, .int (wc)), (0, .ref m0)]) [0, 1, 2, 5] rfl ?_
          refine ih_8 (i + 1) fe wc (by omega) ?_ ?_
          · omega
          · simp only [coM]; rw [← h_8_1, if_neg (fun q => q.1 c_33)]
        · skip
          refine v_aload_n (pc := 36) 4 dX5_comes_36 rfl rfl ?_
          refine v_iload_n (pc := 37) 1 dX5_comes_37 rfl rfl ?_
          refine v_callV (pc := 38) (rest := []) [0, 1] 0 lk_1057 (c_X5_agrees l E m0 ma mp mt mc ml mn mk mg mh mq nt pp rl tl se th rn ro to wt hn ho fa bk ba spt hre tok val tn f (nI i) (by first | assumption | omega) (by first | assumption | omega)) dX5_comes_38 rfl rfl (Nat.le_of_ble_eq_true rfl) (by decide) rfl rfl rfl (by decide) rfl (Rt.len rfl) (Rt.go ?_)
          refine v_w (ws' := [(m0, .inr (5, [.ref ma, .int (nI nt), .int (nI pp), .int (th), .ref mp, .int (rn), .int (ro), .int (to), .int (wt), .int (hn), .int (ho), .ref mt, .int (nI tl), .int (fa), .int (bk), .int (ba), .int (spt), .int (hre), .int (tok), .int (val), .ref mc, .ref ml, .ref mn, .int (nI se), .ref mk, .ref mg, .ref mh, .ref mq, .int (tn)])), (ma, .inl (E.2.1 1, 172, .inl (f)))]) rfl ?_
          refine v_st (st' := [.int (if outM rl th f (nI i) = (nI i) then 1 else 0)]) rfl ?_
          refine v_ifB_eq (pc := 41) 48 dX5_comes_41 (by decide) (fun c_41 => ?_) (fun c_41 => ?_)
          · skip
            refine v_iconst (pc := 48) (v := 0) dX5_comes_48 (by decide) ?_
            refine v_istore (pc := 49) (lv' := [(5, .int (0)), (4, .int (btsK ((nI i) ^^^ (f 41)) 8)), (3, .int (nI i)), (1, .int (fe)), (2, .int (wc)), (0, .ref m0)]) dX5_comes_49 (by decide) rfl ?_
            refine v_iload (pc := 51) 0 dX5_comes_51 rfl ?_
            refine v_if_eq (pc := 53) 60 dX5_comes_53 (by decide) (fun _ => ?_) (fun c => absurd c (by decide))
            refine v_iload_n (pc := 60) 4 dX5_comes_60 rfl rfl ?_
            refine v_istore_n (pc := 61) (lv' := [(2, .int (wc)), (5, .int (0)), (4, .int (btsK ((nI i) ^^^ (f 41)) 8)), (3, .int (nI i)), (1, .int (fe)), (0, .ref m0)]) dX5_comes_61 rfl (by decide) rfl ?_
            refine v_iload (pc := 62) 1 dX5_comes_62 rfl ?_
            refine v_if_eq (pc := 64) 72 dX5_comes_64 (by decide) (fun _ => ?_) (fun c => absurd c (by decide))
            refine v_iload_n (pc := 72) 4 dX5_comes_72 rfl rfl ?_
            refine v_istore_n (pc := 73) (lv' := [(1, .int (fe)), (2, .int (wc)), (5, .int (0)), (4, .int (btsK ((nI i) ^^^ (f 41)) 8)), (3, .int (nI i)), (0, .ref m0)]) dX5_comes_73 rfl (by decide) rfl ?_
            refine v_iinc (pc := 74) (v := nI (i + 1)) (lv' := [(3, .int (nI (i + 1))), (1, .int (fe)), (2, .int (wc)), (5, .int (0)), (4, .int (btsK ((nI i) ^^^ (f 41)) 8)), (0, .ref m0)]) 4 dX5_comes_74 rfl (nI_inc (i) 1) (by decide) rfl ?_
            refine v_goto (pc := 77) 8 dX5_comes_77 (by decide) ?_
            refine v_lv (lv' := [(3, .int (nI (i + 1))), (1, .int (fe)), (2, .int (wc)), (0, .ref m0)]) [0, 1, 2, 5] rfl ?_
            refine ih_8 (i + 1) fe wc (by omega) ?_ ?_
            · omega
            · simp only [coM]; rw [← h_8_1, if_neg (fun q => c_41 (by simpa [agM] using q.2))]
          · skip
            refine v_iconst (pc := 44) (v := 1) dX5_comes_44 (by decide) ?_
            refine v_goto (pc := 45) 49 dX5_comes_45 (by decide) ?_
            refine v_istore (pc := 49) (lv' := [(5, .int (1)), (4, .int (btsK ((nI i) ^^^ (f 41)) 8)), (3, .int (nI i)), (1, .int (fe)), (2, .int (wc)), (0, .ref m0)]) dX5_comes_49 (by decide) rfl ?_
            refine v_iload (pc := 51) 0 dX5_comes_51 rfl ?_
            refine v_if_eq (pc := 53) 60 dX5_comes_53 (by decide) (fun c => absurd c (by decide)) (fun _ => ?_)
            refine v_iload_n (pc := 56) 2 dX5_comes_56 rfl rfl ?_
            refine v_goto (pc := 57) 61 dX5_comes_57 (by decide) ?_
            refine v_istore_n (pc := 61) (lv' := [(2, .int (nI i)), (5, .int (1)), (4, .int (btsK ((nI i) ^^^ (f 41)) 8)), (3, .int (nI i)), (1, .int (fe)), (0, .ref m0)]) dX5_comes_61 rfl (by decide) rfl ?_
            refine v_iload (pc := 62) 1 dX5_comes_62 rfl ?_
            refine v_if_eq (pc := 64) 72 dX5_comes_64 (by decide) (fun c => absurd c (by decide)) (fun _ => ?_)
            refine v_iload (pc := 67) 2 dX5_comes_67 rfl ?_
            refine v_goto (pc := 69) 73 dX5_comes_69 (by decide) ?_
            refine v_istore_n (pc := 73) (lv' := [(1, .int (btsK ((nI i) ^^^ (f 41)) 8)), (2, .int (nI i)), (5, .int (1)), (4, .int (btsK ((nI i) ^^^ (f 41)) 8)), (3, .int (nI i)), (0, .ref m0)]) dX5_comes_73 rfl (by decide) rfl ?_
            refine v_iinc (pc := 74) (v := nI (i + 1)) (lv' := [(3, .int (nI (i + 1))), (1, .int (btsK ((nI i) ^^^ (f 41)) 8)), (2, .int (nI i)), (5, .int (1)), (4, .int (btsK ((nI i) ^^^ (f 41)) 8)), (0, .ref m0)]) 4 dX5_comes_74 rfl (nI_inc (i) 1) (by decide) rfl ?_
            refine v_goto (pc := 77) 8 dX5_comes_77 (by decide) ?_
            refine v_lv (lv' := [(3, .int (nI (i + 1))), (1, .int (btsK ((nI i) ^^^ (f 41)) 8)), (2, .int (nI i)), (0, .ref m0)]) [0, 1, 2, 5] rfl ?_
            refine ih_8 (i + 1) (btsK ((nI i) ^^^ (f 41)) 8) (nI i) (by omega) ?_ ?_
            · omega
            · simp only [coM]; rw [← h_8_1, if_pos ⟨c_33, (by simpa [agM] using c_41)⟩]
  refine v_lv (lv' := [(3, .int (nI 0)), (1, .int (100)), (2, .int (-4)), (0, .ref m0)]) [0, 2, 1, 3] rfl ?_
  refine loop_8 ((2 ^ nt - 0) + 1) 0 100 (-4) (Nat.lt_succ_self _) ?_ ?_
  · omega
  · rfl
theorem c_X5_worthOf (l : Launch) (E : VE) (m0 : Nat) (ma : Nat) (mp : Nat) (mt : Nat) (mc : Nat) (ml : Nat) (mn : Nat) (mk : Nat) (mg : Nat) (mh : Nat) (mq : Nat) (nt : Nat) (pp : Nat) (tl : Nat) (se : Nat) (th : Int32) (rn : Int32) (ro : Int32) (to : Int32) (wt : Int32) (hn : Int32) (ho : Int32) (fa : Int32) (bk : Int32) (ba : Int32) (spt : Int32) (hre : Int32) (tok : Int32) (val : Int32) (tn : Int32) (f : Nat → Int32) (x : Int32) (h_nt : nt ≤ 6) : Ct l E yX5_worthOf cX5_worthOf 4 (Option.some FieldType.int) 0 0 0 0 [.ref m0, .int (x)] [(m0, .inr (5, [.ref ma, .int (nI nt), .int (nI pp), .int (th), .ref mp, .int (rn), .int (ro), .int (to), .int (wt), .int (hn), .int (ho), .ref mt, .int (nI tl), .int (fa), .int (bk), .int (ba), .int (spt), .int (hre), .int (tok), .int (val), .ref mc, .ref ml, .ref mn, .int (nI se), .ref mk, .ref mg, .ref mh, .ref mq, .int (tn)])), (ma, .inl (E.2.1 1, 172, .inl (f)))] (Rt (some (.int (sumM f x nt))) [(m0, .inr (5, [.ref ma, .int (nI nt), .int (nI pp), .int (th), .ref mp, .int (rn), .int (ro), .int (to), .int (wt), .int (hn), .int (ho), .ref mt, .int (nI tl), .int (fa), .int (bk), .int (ba), .int (spt), .int (hre), .int (tok), .int (val), .ref mc, .ref ml, .ref mn, .int (nI se), .ref mk, .ref mg, .ref mh, .ref mq, .int (tn)])), (ma, .inl (E.2.1 1, 172, .inl (f)))]) := by
  refine Ct.of (own := RX5) (nm := "worthOf") (lv := [(0, .ref m0), (1, .int (x))]) (by decide) rfl rfl (Nat.le_of_ble_eq_true rfl) rfl ?_
  refine v_iconst (pc := 0) (v := 0) dX5_worthOf_0 (by decide) ?_
  refine v_istore_n (pc := 1) (lv' := [(2, .int (0)), (0, .ref m0), (1, .int (x))]) dX5_worthOf_1 rfl (by decide) rfl ?_
  refine v_iconst (pc := 2) (v := 0) dX5_worthOf_2 (by decide) ?_
  refine v_istore_n (pc := 3) (lv' := [(3, .int (0)), (2, .int (0)), (0, .ref m0), (1, .int (x))]) dX5_worthOf_3 rfl (by decide) rfl ?_
  have loop_4 : ∀ (D_4 : Nat) (i : Nat) (acc : Int32), nt - i < D_4 → (i ≤ nt) → (acc = sumM f x i) → V l E RX5 cX5_worthOf 4 (Option.some FieldType.int) "worthOf" ({ frames := 0, cells := 0, slots := 0, locals := 0 }) [(m0, .inr (5, [.ref ma, .int (nI nt), .int (nI pp), .int (th), .ref mp, .int (rn), .int (ro), .int (to), .int (wt), .int (hn), .int (ho), .ref mt, .int (nI tl), .int (fa), .int (bk), .int (ba), .int (spt), .int (hre), .int (tok), .int (val), .ref mc, .ref ml, .ref mn, .int (nI se), .ref mk, .ref mg, .ref mh, .ref mq, .int (tn)])), (ma, .inl (E.2.1 1, 172, .inl (f)))] 0 0 (Rt (some (.int (sumM f x nt))) [(m0, .inr (5, [.ref ma, .int (nI nt), .int (nI pp), .int (th), .ref mp, .int (rn), .int (ro), .int (to), .int (wt), .int (hn), .int (ho), .ref mt, .int (nI tl), .int (fa), .int (bk), .int (ba), .int (spt), .int (hre), .int (tok), .int (val), .ref mc, .ref ml, .ref mn, .int (nI se), .ref mk, .ref mg, .ref mh, .ref mq, .int (tn)])), (ma, .inl (E.2.1 1, 172, .inl (f)))]) 0 0 4 [(3, .int (nI i)), (2, .int (acc)), (0, .ref m0), (1, .int (x))] [] [(m0, .inr (5, [.ref ma, .int (nI nt), .int (nI pp), .int (th), .ref mp, .int (rn), .int (ro), .int (to), .int (wt), .int (hn), .int (ho), .ref mt, .int (nI tl), .int (fa), .int (bk), .int (ba), .int (spt), .int (hre), .int (tok), .int (val), .ref mc, .ref ml, .ref mn, .int (nI se), .ref mk, .ref mg, .ref mh, .ref mq, .int (tn)])), (ma, .inl (E.2.1 1, 172, .inl (f)))] := by
    intro D_4
    induction D_4 with
    | zero => intro i acc h; exact absurd h (Nat.not_lt_zero _)
    | succ D_4 ih_4 =>
      intro i acc hmu_4 h_4_0 h_4_1
      refine v_iload_n (pc := 4) 0 dX5_worthOf_4 rfl rfl ?_
      refine v_aload_n (pc := 5) 2 dX5_worthOf_5 rfl rfl ?_
      refine gf_788 (pc := 6) 0 dX5_worthOf_6 rfl rfl ?_
      refine v_cmpN_ge (pc := 9) (a := i) (b := nt) 40 dX5_worthOf_9 (by decide) (by omega) (by omega) (fun c_9 => ?_) (fun c_9 => ?_)
      · skip
        refine v_iload_n (pc := 40) 1 dX5_worthOf_40 rfl rfl ?_
        refine v_iret (pc := 41) dX5_worthOf_41 rfl ⟨rfl, rfl⟩ (Rt.i ?_)
        obtain rfl : i = nt := by omega
        exact h_4_1
      · skip
        refine v_iload_n (pc := 12) 1 dX5_worthOf_12 rfl rfl ?_
        refine v_iload_n (pc := 13) 3 dX5_worthOf_13 rfl rfl ?_
        refine v_iload_n (pc := 14) 0 dX5_worthOf_14 rfl rfl ?_
        refine v_ishr (pc := 15) dX5_worthOf_15 ?_
        refine v_iconst (pc := 16) (v := 1) dX5_worthOf_16 (by decide) ?_
        refine v_iand (pc := 17) dX5_worthOf_17 ?_
        refine v_iconst (pc := 18) (v := 1) dX5_worthOf_18 (by decide) ?_
        refine v_icmp_ne (pc := 19) 31 dX5_worthOf_19 (by decide) (fun c_19 => ?_) (fun c_19 => ?_)
        · skip
          refine v_iconst (pc := 31) (v := 0) dX5_worthOf_31 (by decide) ?_
          refine v_iadd (pc := 32) dX5_worthOf_32 ?_
          refine v_istore_n (pc := 33) (lv' := [(2, .int ((acc) + (0))), (3, .int (nI i)), (0, .ref m0), (1, .int (x))]) dX5_worthOf_33 rfl (by decide) rfl ?_
          refine v_iinc (pc := 34) (v := nI (i + 1)) (lv' := [(3, .int (nI (i + 1))), (2, .int ((acc) + (0))), (0, .ref m0), (1, .int (x))]) 1 dX5_worthOf_34 rfl (nI_inc (i) 1) (by decide) rfl ?_
          refine v_goto (pc := 37) 4 dX5_worthOf_37 (by decide) ?_
          refine v_lv (lv' := [(3, .int (nI (i + 1))), (2, .int ((acc) + (0))), (0, .ref m0), (1, .int (x))]) [0, 1, 2, 3] rfl ?_
          refine ih_4 (i + 1) ((acc) + (0)) (by omega) ?_ ?_
          · omega
          · simp only [sumM]; rw [if_neg (show ¬ bt1 x (nI i) = 1 from c_19), h_4_1] <;> rfl
        · skip
          refine v_aload_n (pc := 22) 2 dX5_worthOf_22 rfl rfl ?_
          refine gf_787 (pc := 23) 0 dX5_worthOf_23 rfl rfl ?_
          refine v_iload_n (pc := 26) 0 dX5_worthOf_26 rfl rfl ?_
          refine v_ialdN (pc := 27) 1 1 (i) dX5_worthOf_27 rfl rfl rfl (by omega) (by decide) ?_
          refine v_goto (pc := 28) 32 dX5_worthOf_28 (by decide) ?_
          refine v_iadd (pc := 32) dX5_worthOf_32 ?_
          refine v_istore_n (pc := 33) (lv' := [(2, .int ((acc) + (f i))), (3, .int (nI i)), (0, .ref m0), (1, .int (x))]) dX5_worthOf_33 rfl (by decide) rfl ?_
          refine v_iinc (pc := 34) (v := nI (i + 1)) (lv' := [(3, .int (nI (i + 1))), (2, .int ((acc) + (f i))), (0, .ref m0), (1, .int (x))]) 1 dX5_worthOf_34 rfl (nI_inc (i) 1) (by decide) rfl ?_
          refine v_goto (pc := 37) 4 dX5_worthOf_37 (by decide) ?_
          refine v_lv (lv' := [(3, .int (nI (i + 1))), (2, .int ((acc) + (f i))), (0, .ref m0), (1, .int (x))]) [0, 1, 2, 3] rfl ?_
          refine ih_4 (i + 1) ((acc) + (f i)) (by omega) ?_ ?_
          · omega
          · simp only [sumM]; rw [if_pos (show bt1 x (nI i) = 1 from c_19), h_4_1] <;> rfl
  refine v_lv (lv' := [(3, .int (nI 0)), (2, .int (0)), (0, .ref m0), (1, .int (x))]) [0, 1, 2, 3] rfl ?_
  refine loop_4 ((nt - 0) + 1) 0 0 (Nat.lt_succ_self _) ?_ ?_
  · omega
  · rfl
theorem c_X5_richest (l : Launch) (E : VE) (m0 : Nat) (ma : Nat) (mp : Nat) (mt : Nat) (mc : Nat) (ml : Nat) (mn : Nat) (mk : Nat) (mg : Nat) (mh : Nat) (mq : Nat) (nt : Nat) (pp : Nat) (rl : Nat) (tl : Nat) (se : Nat) (th : Int32) (rn : Int32) (ro : Int32) (to : Int32) (wt : Int32) (hn : Int32) (ho : Int32) (fa : Int32) (bk : Int32) (ba : Int32) (spt : Int32) (hre : Int32) (tok : Int32) (val : Int32) (tn : Int32) (f : Nat → Int32) (wh : Int32) (h_rl : rl ≤ 8) (h_38 : f 38 = nI rl) (h_nt : nt ≤ 6) : Ct l E yX5_richest cX5_richest 6 (Option.some FieldType.int) 3 68 0 0 [.ref m0, .int (wh)] [(m0, .inr (5, [.ref ma, .int (nI nt), .int (nI pp), .int (th), .ref mp, .int (rn), .int (ro), .int (to), .int (wt), .int (hn), .int (ho), .ref mt, .int (nI tl), .int (fa), .int (bk), .int (ba), .int (spt), .int (hre), .int (tok), .int (val), .ref mc, .ref ml, .ref mn, .int (nI se), .ref mk, .ref mg, .ref mh, .ref mq, .int (tn)])), (ma, .inl (E.2.1 1, 172, .inl (f)))] (Rt (some (.int (if ¬ wh < 0 ∧ ¬ 1 < wh then (if (riM (agM rl th f) (fun s => sumM f (nI s) nt) (2 ^ nt)).2 = -4 then (riM (agM rl th f) (fun s => sumM f (nI s) nt) (2 ^ nt)).2 else if wh = 0 then (riM (agM rl th f) (fun s => sumM f (nI s) nt) (2 ^ nt)).2 else 100 + (riM (agM rl th f) (fun s => sumM f (nI s) nt) (2 ^ nt)).1) else -1))) [(m0, .inr (5, [.ref ma, .int (nI nt), .int (nI pp), .int (th), .ref mp, .int (rn), .int (ro), .int (to), .int (wt), .int (hn), .int (ho), .ref mt, .int (nI tl), .int (fa), .int (bk), .int (ba), .int (spt), .int (hre), .int (tok), .int (val), .ref mc, .ref ml, .ref mn, .int (nI se), .ref mk, .ref mg, .ref mh, .ref mq, .int (tn)])), (ma, .inl (E.2.1 1, 172, .inl (f)))]) := by
  refine Ct.of (own := RX5) (nm := "richest") (lv := [(0, .ref m0), (1, .int (wh))]) (by decide) rfl rfl (Nat.le_of_ble_eq_true rfl) rfl ?_
  have h64 := p64 h_nt
  have h0p := p1 nt
  refine v_iload_n (pc := 0) 1 dX5_richest_0 rfl rfl ?_
  refine v_i2l (pc := 1) dX5_richest_1 ?_
  refine v_lconst (pc := 2) (v := 0) dX5_richest_2 (by decide) ?_
  refine v_lconst (pc := 3) (v := 1) dX5_richest_3 (by decide) ?_
  refine v_callS (pc := 4) (rest := []) [] lk_880 (c_X5_in l E (Int32.toInt64 (wh)) 0 1) dX5_richest_4 rfl rfl (Nat.le_of_ble_eq_true rfl) (by decide) (by decide) rfl (Rt.len rfl) (Rt.go ?_)
  refine v_w (ws' := [(m0, .inr (5, [.ref ma, .int (nI nt), .int (nI pp), .int (th), .ref mp, .int (rn), .int (ro), .int (to), .int (wt), .int (hn), .int (ho), .ref mt, .int (nI tl), .int (fa), .int (bk), .int (ba), .int (spt), .int (hre), .int (tok), .int (val), .ref mc, .ref ml, .ref mn, .int (nI se), .ref mk, .ref mg, .ref mh, .ref mq, .int (tn)])), (ma, .inl (E.2.1 1, 172, .inl (f)))]) rfl ?_
  refine v_st (st' := [.int (if ¬ (Int32.toInt64 (wh)) < 0 ∧ ¬ 1 < (Int32.toInt64 (wh)) then 1 else 0)]) rfl ?_
  refine v_st (st' := [.int (if ¬ wh < 0 ∧ ¬ 1 < wh then 1 else 0)]) (ite_st (inK (a := 0) (b := 1)) _) ?_
  refine v_ifB_ne (pc := 7) 12 dX5_richest_7 (by decide) (fun c_7 => ?_) (fun c_7 => ?_)
  · skip
    refine v_bipush (pc := 12) (v := -100) dX5_richest_12 (by decide) ?_
    refine v_istore_n (pc := 14) (lv' := [(2, .int (-100)), (0, .ref m0), (1, .int (wh))]) dX5_richest_14 rfl (by decide) rfl ?_
    refine v_bipush (pc := 15) (v := -4) dX5_richest_15 (by decide) ?_
    refine v_istore_n (pc := 17) (lv' := [(3, .int (-4)), (2, .int (-100)), (0, .ref m0), (1, .int (wh))]) dX5_richest_17 rfl (by decide) rfl ?_
    refine v_iconst (pc := 18) (v := 0) dX5_richest_18 (by decide) ?_
    refine v_istore (pc := 19) (lv' := [(4, .int (0)), (3, .int (-4)), (2, .int (-100)), (0, .ref m0), (1, .int (wh))]) dX5_richest_19 (by decide) rfl ?_
    have loop_21 : ∀ (D_21 : Nat) (i : Nat) (fe : Int32) (wc : Int32), 2 ^ nt - i < D_21 → (i ≤ 2 ^ nt) → ((fe, wc) = riM (agM rl th f) (fun s => sumM f (nI s) nt) i) → V l E RX5 cX5_richest 6 (Option.some FieldType.int) "richest" ({ frames := 3, cells := 0, slots := 0, locals := 68 }) [(m0, .inr (5, [.ref ma, .int (nI nt), .int (nI pp), .int (th), .ref mp, .int (rn), .int (ro), .int (to), .int (wt), .int (hn), .int (ho), .ref mt, .int (nI tl), .int (fa), .int (bk), .int (ba), .int (spt), .int (hre), .int (tok), .int (val), .ref mc, .ref ml, .ref mn, .int (nI se), .ref mk, .ref mg, .ref mh, .ref mq, .int (tn)])), (ma, .inl (E.2.1 1, 172, .inl (f)))] 0 0 (Rt (some (.int (if ¬ wh < 0 ∧ ¬ 1 < wh then (if (riM (agM rl th f) (fun s => sumM f (nI s) nt) (2 ^ nt)).2 = -4 then (riM (agM rl th f) (fun s => sumM f (nI s) nt) (2 ^ nt)).2 else if wh = 0 then (riM (agM rl th f) (fun s => sumM f (nI s) nt) (2 ^ nt)).2 else 100 + (riM (agM rl th f) (fun s => sumM f (nI s) nt) (2 ^ nt)).1) else -1))) [(m0, .inr (5, [.ref ma, .int (nI nt), .int (nI pp), .int (th), .ref mp, .int (rn), .int (ro), .int (to), .int (wt), .int (hn), .int (ho), .ref mt, .int (nI tl), .int (fa), .int (bk), .int (ba), .int (spt), .int (hre), .int (tok), .int (val), .ref mc, .ref ml, .ref mn, .int (nI se), .ref mk, .ref mg, .ref mh, .ref mq, .int (tn)])), (ma, .inl (E.2.1 1, 172, .inl (f)))]) 0 0 21 [(4, .int (nI i)), (2, .int (fe)), (3, .int (wc)), (0, .ref m0), (1, .int (wh))] [] [(m0, .inr (5, [.ref ma, .int (nI nt), .int (nI pp), .int (th), .ref mp, .int (rn), .int (ro), .int (to), .int (wt), .int (hn), .int (ho), .ref mt, .int (nI tl), .int (fa), .int (bk), .int (ba), .int (spt), .int (hre), .int (tok), .int (val), .ref mc, .ref ml, .ref mn, .int (nI se), .ref mk, .ref mg, .ref mh, .ref mq, .int (tn)])), (ma, .inl (E.2.1 1, 172, .inl (f)))] := by
      intro D_21
      induction D_21 with
      | zero => intro i fe wc h; exact absurd h (Nat.not_lt_zero _)
      | succ D_21 ih_21 =>
        intro i fe wc hmu_21 h_21_0 h_21_1
        refine v_iload (pc := 21) 0 dX5_richest_21 rfl ?_
        refine v_aload_n (pc := 23) 3 dX5_richest_23 rfl rfl ?_
        refine v_callV (pc := 24) (rest := [.int (nI i)]) [0] 0 lk_1024 (c_X5_sets l E m0 ma mp mt mc ml mn mk mg mh mq nt pp tl se th rn ro to wt hn ho fa bk ba spt hre tok val tn (by first | assumption | omega)) dX5_richest_24 rfl rfl (Nat.le_of_ble_eq_true rfl) (by decide) rfl rfl rfl (by decide) rfl (Rt.len rfl) (Rt.go ?_)
        refine v_w (ws' := [(m0, .inr (5, [.ref ma, .int (nI nt), .int (nI pp), .int (th), .ref mp, .int (rn), .int (ro), .int (to), .int (wt), .int (hn), .int (ho), .ref mt, .int (nI tl), .int (fa), .int (bk), .int (ba), .int (spt), .int (hre), .int (tok), .int (val), .ref mc, .ref ml, .ref mn, .int (nI se), .ref mk, .ref mg, .ref mh, .ref mq, .int (tn)])), (ma, .inl (E.2.1 1, 172, .inl (f)))]) rfl ?_
        refine v_st (st' := [.int (nI (2 ^ nt)), .int (nI i)]) rfl ?_
        refine v_cmpN_ge (pc := 27) (a := i) (b := 2 ^ nt) 90 dX5_richest_27 (by decide) (by omega) (by omega) (fun c_27 => ?_) (fun c_27 => ?_)
        · skip
          refine v_iload_n (pc := 90) 2 dX5_richest_90 rfl rfl ?_
          refine v_bipush (pc := 91) (v := -4) dX5_richest_91 (by decide) ?_
          refine v_icmp_eq (pc := 93) 100 dX5_richest_93 (by decide) (fun c_93 => ?_) (fun c_93 => ?_)
          · skip
            refine v_iload_n (pc := 100) 2 dX5_richest_100 rfl rfl ?_
            refine v_goto (pc := 101) 108 dX5_richest_101 (by decide) ?_
            refine v_iret (pc := 108) dX5_richest_108 rfl ⟨rfl, rfl⟩ (Rt.i ?_)
            obtain rfl : i = 2 ^ nt := by omega
            rw [if_pos c_7, ← h_21_1, if_pos c_93]
          · skip
            refine v_iload_n (pc := 96) 4 dX5_richest_96 rfl rfl ?_
            refine v_if_ne (pc := 97) 104 dX5_richest_97 (by decide) (fun c_97 => ?_) (fun c_97 => ?_)
            · skip
              refine v_bipush (pc := 104) (v := 100) dX5_richest_104 (by decide) ?_
              refine v_iload_n (pc := 106) 1 dX5_richest_106 rfl rfl ?_
              refine v_iadd (pc := 107) dX5_richest_107 ?_
              refine v_iret (pc := 108) dX5_richest_108 rfl ⟨rfl, rfl⟩ (Rt.i ?_)
              obtain rfl : i = 2 ^ nt := by omega
              rw [if_pos c_7, ← h_21_1, if_neg c_93, if_neg c_97]
            · skip
              refine v_iload_n (pc := 100) 2 dX5_richest_100 rfl rfl ?_
              refine v_goto (pc := 101) 108 dX5_richest_101 (by decide) ?_
              refine v_iret (pc := 108) dX5_richest_108 rfl ⟨rfl, rfl⟩ (Rt.i ?_)
              obtain rfl : i = 2 ^ nt := by omega
              rw [if_pos c_7, ← h_21_1, if_neg c_93, if_pos c_97]
        · skip
          refine v_aload_n (pc := 30) 3 dX5_richest_30 rfl rfl ?_
          refine v_iload (pc := 31) 0 dX5_richest_31 rfl ?_
          refine v_callV (pc := 33) (rest := []) [0, 1] 0 lk_1124 (c_X5_worthOf l E m0 ma mp mt mc ml mn mk mg mh mq nt pp tl se th rn ro to wt hn ho fa bk ba spt hre tok val tn f (nI i) (by first | assumption | omega)) dX5_richest_33 rfl rfl (Nat.le_of_ble_eq_true rfl) (by decide) rfl rfl rfl (by decide) rfl (Rt.len rfl) (Rt.go ?_)
          refine v_w (ws' := [(m0, .inr (5, [.ref ma, .int (nI nt), .int (nI pp), .int (th), .ref mp, .int (rn), .int (ro), .int (to), .int (wt), .int (hn), .int (ho), .ref mt, .int (nI tl), .int (fa), .int (bk), .int (ba), .int (spt), .int (hre), .int (tok), .int (val), .ref mc, .ref ml, .ref mn, .int (nI se), .ref mk, .ref mg, .ref mh, .ref mq, .int (tn)])), (ma, .inl (E.2.1 1, 172, .inl (f)))]) rfl ?_
          refine v_st (st' := [.int (sumM f (nI i) nt)]) rfl ?_
          refine v_iload_n (pc := 36) 1 dX5_richest_36 rfl rfl ?_
          refine v_icmp_le (pc := 37) 53 dX5_richest_37 (by decide) (fun c_37 => ?_) (fun c_37 => ?_)
          · skip
            refine v_iconst (pc := 53) (v := 0) dX5_richest_53 (by decide) ?_
            refine v_istore (pc := 54) (lv' := [(5, .int (0)), (4, .int (nI i)), (2, .int (fe)), (3, .int (wc)), (0, .ref m0), (1, .int (wh))]) dX5_richest_54 (by decide) rfl ?_
            refine v_iload (pc := 56) 0 dX5_richest_56 rfl ?_
            refine v_if_eq (pc := 58) 66 dX5_richest_58 (by decide) (fun _ => ?_) (fun c => absurd c (by decide))
            refine v_iload_n (pc := 66) 3 dX5_richest_66 rfl rfl ?_
            refine v_istore_n (pc := 67) (lv' := [(3, .int (wc)), (5, .int (0)), (4, .int (nI i)), (2, .int (fe)), (0, .ref m0), (1, .int (wh))]) dX5_richest_67 rfl (by decide) rfl ?_
            refine v_iload (pc := 68) 1 dX5_richest_68 rfl ?_
            refine v_if_eq (pc := 70) 82 dX5_richest_70 (by decide) (fun _ => ?_) (fun c => absurd c (by decide))
            refine v_iload_n (pc := 82) 3 dX5_richest_82 rfl rfl ?_
            refine v_istore_n (pc := 83) (lv' := [(2, .int (fe)), (3, .int (wc)), (5, .int (0)), (4, .int (nI i)), (0, .ref m0), (1, .int (wh))]) dX5_richest_83 rfl (by decide) rfl ?_
            refine v_iinc (pc := 84) (v := nI (i + 1)) (lv' := [(4, .int (nI (i + 1))), (2, .int (fe)), (3, .int (wc)), (5, .int (0)), (0, .ref m0), (1, .int (wh))]) 3 dX5_richest_84 rfl (nI_inc (i) 1) (by decide) rfl ?_
            refine v_goto (pc := 87) 21 dX5_richest_87 (by decide) ?_
            refine v_lv (lv' := [(4, .int (nI (i + 1))), (2, .int (fe)), (3, .int (wc)), (0, .ref m0), (1, .int (wh))]) [0, 1, 2, 4, 5] rfl ?_
            refine ih_21 (i + 1) fe wc (by omega) ?_ ?_
            · omega
            · simp only [riM]; rw [← h_21_1, if_neg (fun q => q.1 c_37)]
          · skip
            refine v_aload_n (pc := 40) 3 dX5_richest_40 rfl rfl ?_
            refine v_iload (pc := 41) 0 dX5_richest_41 rfl ?_
            refine v_callV (pc := 43) (rest := []) [0, 1] 0 lk_1057 (c_X5_agrees l E m0 ma mp mt mc ml mn mk mg mh mq nt pp rl tl se th rn ro to wt hn ho fa bk ba spt hre tok val tn f (nI i) (by first | assumption | omega) (by first | assumption | omega)) dX5_richest_43 rfl rfl (Nat.le_of_ble_eq_true rfl) (by decide) rfl rfl rfl (by decide) rfl (Rt.len rfl) (Rt.go ?_)
            refine v_w (ws' := [(m0, .inr (5, [.ref ma, .int (nI nt), .int (nI pp), .int (th), .ref mp, .int (rn), .int (ro), .int (to), .int (wt), .int (hn), .int (ho), .ref mt, .int (nI tl), .int (fa), .int (bk), .int (ba), .int (spt), .int (hre), .int (tok), .int (val), .ref mc, .ref ml, .ref mn, .int (nI se), .ref mk, .ref mg, .ref mh, .ref mq, .int (tn)])), (ma, .inl (E.2.1 1, 172, .inl (f)))]) rfl ?_
            refine v_st (st' := [.int (if outM rl th f (nI i) = (nI i) then 1 else 0)]) rfl ?_
            refine v_ifB_eq (pc := 46) 53 dX5_richest_46 (by decide) (fun c_46 => ?_) (fun c_46 => ?_)
            · skip
              refine v_iconst (pc := 53) (v := 0) dX5_richest_53 (by decide) ?_
              refine v_istore (pc := 54) (lv' := [(5, .int (0)), (4, .int (nI i)), (2, .int (fe)), (3, .int (wc)), (0, .ref m0), (1, .int (wh))]) dX5_richest_54 (by decide) rfl ?_
              refine v_iload (pc := 56) 0 dX5_richest_56 rfl ?_
              refine v_if_eq (pc := 58) 66 dX5_richest_58 (by decide) (fun _ => ?_) (fun c => absurd c (by decide))
              refine v_iload_n (pc := 66) 3 dX5_richest_66 rfl rfl ?_
              refine v_istore_n (pc := 67) (lv' := [(3, .int (wc)), (5, .int (0)), (4, .int (nI i)), (2, .int (fe)), (0, .ref m0), (1, .int (wh))]) dX5_richest_67 rfl (by decide) rfl ?_
              refine v_iload (pc := 68) 1 dX5_richest_68 rfl ?_
              refine v_if_eq (pc := 70) 82 dX5_richest_70 (by decide) (fun _ => ?_) (fun c => absurd c (by decide))
              refine v_iload_n (pc := 82) 3 dX5_richest_82 rfl rfl ?_
              refine v_istore_n (pc := 83) (lv' := [(2, .int (fe)), (3, .int (wc)), (5, .int (0)), (4, .int (nI i)), (0, .ref m0), (1, .int (wh))]) dX5_richest_83 rfl (by decide) rfl ?_
              refine v_iinc (pc := 84) (v := nI (i + 1)) (lv' := [(4, .int (nI (i + 1))), (2, .int (fe)), (3, .int (wc)), (5, .int (0)), (0, .ref m0), (1, .int (wh))]) 3 dX5_richest_84 rfl (nI_inc (i) 1) (by decide) rfl ?_
              refine v_goto (pc := 87) 21 dX5_richest_87 (by decide) ?_
              refine v_lv (lv' := [(4, .int (nI (i + 1))), (2, .int (fe)), (3, .int (wc)), (0, .ref m0), (1, .int (wh))]) [0, 1, 2, 4, 5] rfl ?_
              refine ih_21 (i + 1) fe wc (by omega) ?_ ?_
              · omega
              · simp only [riM]; rw [← h_21_1, if_neg (fun q => c_46 (by simpa [agM] using q.2))]
            · skip
              refine v_iconst (pc := 49) (v := 1) dX5_richest_49 (by decide) ?_
              refine v_goto (pc := 50) 54 dX5_richest_50 (by decide) ?_
              refine v_istore (pc := 54) (lv' := [(5, .int (1)), (4, .int (nI i)), (2, .int (fe)), (3, .int (wc)), (0, .ref m0), (1, .int (wh))]) dX5_richest_54 (by decide) rfl ?_
              refine v_iload (pc := 56) 0 dX5_richest_56 rfl ?_
              refine v_if_eq (pc := 58) 66 dX5_richest_58 (by decide) (fun c => absurd c (by decide)) (fun _ => ?_)
              refine v_iload (pc := 61) 1 dX5_richest_61 rfl ?_
              refine v_goto (pc := 63) 67 dX5_richest_63 (by decide) ?_
              refine v_istore_n (pc := 67) (lv' := [(3, .int (nI i)), (5, .int (1)), (4, .int (nI i)), (2, .int (fe)), (0, .ref m0), (1, .int (wh))]) dX5_richest_67 rfl (by decide) rfl ?_
              refine v_iload (pc := 68) 1 dX5_richest_68 rfl ?_
              refine v_if_eq (pc := 70) 82 dX5_richest_70 (by decide) (fun c => absurd c (by decide)) (fun _ => ?_)
              refine v_aload_n (pc := 73) 4 dX5_richest_73 rfl rfl ?_
              refine v_iload (pc := 74) 2 dX5_richest_74 rfl ?_
              refine v_callV (pc := 76) (rest := []) [0, 1] 0 lk_1124 (c_X5_worthOf l E m0 ma mp mt mc ml mn mk mg mh mq nt pp tl se th rn ro to wt hn ho fa bk ba spt hre tok val tn f (nI i) (by first | assumption | omega)) dX5_richest_76 rfl rfl (Nat.le_of_ble_eq_true rfl) (by decide) rfl rfl rfl (by decide) rfl (Rt.len rfl) (Rt.go ?_)
              refine v_w (ws' := [(m0, .inr (5, [.ref ma, .int (nI nt), .int (nI pp), .int (th), .ref mp, .int (rn), .int (ro), .int (to), .int (wt), .int (hn), .int (ho), .ref mt, .int (nI tl), .int (fa), .int (bk), .int (ba), .int (spt), .int (hre), .int (tok), .int (val), .ref mc, .ref ml, .ref mn, .int (nI se), .ref mk, .ref mg, .ref mh, .ref mq, .int (tn)])), (ma, .inl (E.2.1 1, 172, .inl (f)))]) rfl ?_
              refine v_st (st' := [.int (sumM f (nI i) nt)]) rfl ?_
              refine v_goto (pc := 79) 83 dX5_richest_79 (by decide) ?_
              refine v_istore_n (pc := 83) (lv' := [(2, .int (sumM f (nI i) nt)), (3, .int (nI i)), (5, .int (1)), (4, .int (nI i)), (0, .ref m0), (1, .int (wh))]) dX5_richest_83 rfl (by decide) rfl ?_
              refine v_iinc (pc := 84) (v := nI (i + 1)) (lv' := [(4, .int (nI (i + 1))), (2, .int (sumM f (nI i) nt)), (3, .int (nI i)), (5, .int (1)), (0, .ref m0), (1, .int (wh))]) 3 dX5_richest_84 rfl (nI_inc (i) 1) (by decide) rfl ?_
              refine v_goto (pc := 87) 21 dX5_richest_87 (by decide) ?_
              refine v_lv (lv' := [(4, .int (nI (i + 1))), (2, .int (sumM f (nI i) nt)), (3, .int (nI i)), (0, .ref m0), (1, .int (wh))]) [0, 1, 2, 4, 5] rfl ?_
              refine ih_21 (i + 1) (sumM f (nI i) nt) (nI i) (by omega) ?_ ?_
              · omega
              · simp only [riM]; rw [← h_21_1, if_pos ⟨c_37, (by simpa [agM] using c_46)⟩]
    refine v_lv (lv' := [(4, .int (nI 0)), (2, .int (-100)), (3, .int (-4)), (0, .ref m0), (1, .int (wh))]) [0, 2, 1, 3, 4] rfl ?_
    refine loop_21 ((2 ^ nt - 0) + 1) 0 (-100) (-4) (Nat.lt_succ_self _) ?_ ?_
    · omega
    · rfl
  · skip
    refine v_iconst (pc := 10) (v := -1) dX5_richest_10 (by decide) ?_
    refine v_iret (pc := 11) dX5_richest_11 rfl ⟨rfl, rfl⟩ (Rt.i ?_)
    rw [if_neg c_7]
theorem c_X5_lowest (l : Launch) (E : VE) (a : Nat) (b : Nat) (w : Int32) (h_b : 0 < b) (h_a : a < 2 ^ 50) (h_c : b < 2 ^ 50) : Ct l E yX5_lowest cX5_lowest 11 (Option.some FieldType.long) 0 0 0 0 [.long (lN a), .long (lN b), .int (w)] [] (Rt (some (.long (lowT a b w))) []) := by
  refine Ct.of (own := RX5) (nm := "lowest") (lv := [(0, .long (lN a)), (2, .long (lN b)), (4, .int (w))]) (by decide) rfl rfl (Nat.le_of_ble_eq_true rfl) rfl ?_
  refine v_lload_n (pc := 0) 0 dX5_lowest_0 rfl rfl ?_
  refine v_lstore (pc := 1) (lv' := [(5, .long (lN a)), (0, .long (lN a)), (2, .long (lN b)), (4, .int (w))]) dX5_lowest_1 (by decide) rfl ?_
  refine v_lload_n (pc := 3) 2 dX5_lowest_3 rfl rfl ?_
  refine v_lstore (pc := 4) (lv' := [(7, .long (lN b)), (5, .long (lN a)), (0, .long (lN a)), (2, .long (lN b)), (4, .int (w))]) dX5_lowest_4 (by decide) rfl ?_
  have loop_6 : ∀ (D_6 : Nat) (p : Nat) (q : Nat), q < D_6 → (p < 2 ^ 50 ∧ q < 2 ^ 50) → (Nat.gcd p q = Nat.gcd a b) → (0 < p ∨ 0 < q) → V l E RX5 cX5_lowest 11 (Option.some FieldType.long) "lowest" ({ frames := 0, cells := 0, slots := 0, locals := 0 }) [] 0 0 (Rt (some (.long (lowT a b w))) []) 0 0 6 [(5, .long (lN p)), (7, .long (lN q)), (0, .long (lN a)), (2, .long (lN b)), (4, .int (w))] [] [] := by
    intro D_6
    induction D_6 with
    | zero => intro p q h; exact absurd h (Nat.not_lt_zero _)
    | succ D_6 ih_6 =>
      intro p q hmu_6 h_6_0 h_6_1 h_6_2
      refine v_lload (pc := 6) 1 dX5_lowest_6 rfl ?_
      refine v_lconst (pc := 8) (v := 0) dX5_lowest_8 (by decide) ?_
      refine v_lcmp (pc := 9) dX5_lowest_9 ?_
      refine v_lc_eq (pc := 10) 31 dX5_lowest_10 (by decide) (fun c_10 => ?_) (fun c_10 => ?_)
      · skip
        have hq1 : q = 0 := (lN0 (by omega)).mp c_10
        have hg : p = Nat.gcd a b := by rw [← h_6_1, hq1, Nat.gcd_zero_right]
        refine v_iload (pc := 31) 4 dX5_lowest_31 rfl ?_
        refine v_if_ne (pc := 33) 40 dX5_lowest_33 (by decide) (fun c_33 => ?_) (fun c_33 => ?_)
        · skip
          refine v_lload_n (pc := 40) 3 dX5_lowest_40 rfl rfl ?_
          refine v_lload (pc := 41) 0 dX5_lowest_41 rfl ?_
          refine v_ldiv (pc := 43) dX5_lowest_43 (fun z => absurd ((lN0 (by omega)).mp z) (by omega)) ?_
          refine v_lret (pc := 44) dX5_lowest_44 rfl ⟨rfl, rfl⟩ (Rt.lg ?_)
          unfold lowT; rw [← hg, if_neg c_33, pk_lDiv (by omega) (by omega) (by omega)]
        · skip
          refine v_lload_n (pc := 36) 2 dX5_lowest_36 rfl rfl ?_
          refine v_goto (pc := 37) 41 dX5_lowest_37 (by decide) ?_
          refine v_lload (pc := 41) 0 dX5_lowest_41 rfl ?_
          refine v_ldiv (pc := 43) dX5_lowest_43 (fun z => absurd ((lN0 (by omega)).mp z) (by omega)) ?_
          refine v_lret (pc := 44) dX5_lowest_44 rfl ⟨rfl, rfl⟩ (Rt.lg ?_)
          unfold lowT; rw [← hg, if_pos c_33, pk_lDiv (by omega) (by omega) (by omega)]
      · skip
        have hq0 : 0 < q := Nat.pos_of_ne_zero (fun z => c_10 ((lN0 (by omega)).mpr z))
        refine v_lload (pc := 13) 0 dX5_lowest_13 rfl ?_
        refine v_lload (pc := 15) 1 dX5_lowest_15 rfl ?_
        refine v_lrem (pc := 17) dX5_lowest_17 (fun z => c_10 z) ?_
        refine v_st (st' := [.long (lN (p % q))]) (by rw [pk_lRem (by omega) hq0 (by omega)]) ?_
        refine v_lstore (pc := 18) (lv' := [(9, .long (lN (p % q))), (5, .long (lN p)), (7, .long (lN q)), (0, .long (lN a)), (2, .long (lN b)), (4, .int (w))]) dX5_lowest_18 (by decide) rfl ?_
        refine v_lload (pc := 20) 2 dX5_lowest_20 rfl ?_
        refine v_lstore (pc := 22) (lv' := [(5, .long (lN q)), (9, .long (lN (p % q))), (7, .long (lN q)), (0, .long (lN a)), (2, .long (lN b)), (4, .int (w))]) dX5_lowest_22 (by decide) rfl ?_
        refine v_lload (pc := 24) 1 dX5_lowest_24 rfl ?_
        refine v_lstore (pc := 26) (lv' := [(7, .long (lN (p % q))), (5, .long (lN q)), (9, .long (lN (p % q))), (0, .long (lN a)), (2, .long (lN b)), (4, .int (w))]) dX5_lowest_26 (by decide) rfl ?_
        refine v_goto (pc := 28) 6 dX5_lowest_28 (by decide) ?_
        refine v_lv (lv' := [(5, .long (lN q)), (7, .long (lN (p % q))), (0, .long (lN a)), (2, .long (lN b)), (4, .int (w))]) [1, 0, 3, 4, 5] rfl ?_
        refine ih_6 q (p % q) (by have := Nat.mod_lt p hq0; omega) ?_ ?_ ?_
        · have := Nat.mod_lt p hq0
          omega
        · rw [Nat.gcd_comm q, ← Nat.gcd_rec q p, Nat.gcd_comm q p]; exact h_6_1
        · omega
  refine v_lv (lv' := [(5, .long (lN a)), (7, .long (lN b)), (0, .long (lN a)), (2, .long (lN b)), (4, .int (w))]) [1, 0, 2, 3, 4] rfl ?_
  refine loop_6 (b + 1) a b (Nat.lt_succ_self _) ?_ ?_ ?_
  · omega
  · rfl
  · omega
theorem c0_X5_meanOf (l : Launch) (E : VE) (m0 : Nat) (ma : Nat) (mp : Nat) (mt : Nat) (mc : Nat) (ml : Nat) (mn : Nat) (mk : Nat) (mg : Nat) (mh : Nat) (mq : Nat) (nt : Nat) (pp : Nat) (rl : Nat) (tl : Nat) (se : Nat) (th : Int32) (rn : Int32) (ro : Int32) (to : Int32) (wt : Int32) (hn : Int32) (ho : Int32) (fa : Int32) (bk : Int32) (ba : Int32) (spt : Int32) (hre : Int32) (tok : Int32) (val : Int32) (tn : Int32) (f : Nat → Int32) (v : Nat) (n : Int32) (wh : Int32) (h_rl : rl ≤ 8) (h_38 : f 38 = nI rl) (h_nt : nt ≤ 6) (h_v : v ≤ 10) : Ct l E yX5_meanOf cX5_meanOf 13 (Option.some FieldType.long) 4 92 0 0 [.ref m0, .int (nI v), .int (n), .int (0), .int (wh)] [(m0, .inr (5, [.ref ma, .int (nI nt), .int (nI pp), .int (th), .ref mp, .int (rn), .int (ro), .int (to), .int (wt), .int (hn), .int (ho), .ref mt, .int (nI tl), .int (fa), .int (bk), .int (ba), .int (spt), .int (hre), .int (tok), .int (val), .ref mc, .ref ml, .ref mn, .int (nI se), .ref mk, .ref mg, .ref mh, .ref mq, .int (tn)])), (ma, .inl (E.2.1 1, 172, .inl (f)))] (Rt (some (.long (lowT (expM v rl (mm0 nt rl f n) (2 ^ rl)) (10 ^ rl) wh))) [(m0, .inr (5, [.ref ma, .int (nI nt), .int (nI pp), .int (255), .ref mp, .int (rn), .int (ro), .int (to), .int (wt), .int (hn), .int (ho), .ref mt, .int (nI tl), .int (fa), .int (bk), .int (ba), .int (spt), .int (hre), .int (tok), .int (val), .ref mc, .ref ml, .ref mn, .int (nI se), .ref mk, .ref mg, .ref mh, .ref mq, .int (tn)])), (ma, .inl (E.2.1 1, 172, .inl (f)))]) := by
  refine Ct.of (own := RX5) (nm := "meanOf") (lv := [(0, .ref m0), (1, .int (nI v)), (2, .int (n)), (3, .int (0)), (4, .int (wh))]) (by decide) rfl rfl (Nat.le_of_ble_eq_true rfl) rfl ?_
  have h256 := pow_rl h_rl
  have h0q := p1 rl
  have h64 := p64 h_nt
  have h0p := p1 nt
  refine v_lconst (pc := 0) (v := 0) dX5_meanOf_0 (by decide) ?_
  refine v_lstore (pc := 1) (lv' := [(5, .long (0)), (0, .ref m0), (1, .int (nI v)), (2, .int (n)), (3, .int (0)), (4, .int (wh))]) dX5_meanOf_1 (by decide) rfl ?_
  refine v_lconst (pc := 3) (v := 1) dX5_meanOf_3 (by decide) ?_
  refine v_lstore (pc := 4) (lv' := [(7, .long (1)), (5, .long (0)), (0, .ref m0), (1, .int (nI v)), (2, .int (n)), (3, .int (0)), (4, .int (wh))]) dX5_meanOf_4 (by decide) rfl ?_
  refine v_iconst (pc := 6) (v := 0) dX5_meanOf_6 (by decide) ?_
  refine v_istore (pc := 7) (lv' := [(9, .int (0)), (7, .long (1)), (5, .long (0)), (0, .ref m0), (1, .int (nI v)), (2, .int (n)), (3, .int (0)), (4, .int (wh))]) dX5_meanOf_7 (by decide) rfl ?_
  have loop_9 : ∀ (D_9 : Nat) (d : Nat) (t10 : Nat), rl - d < D_9 → (d ≤ rl) → (t10 = 10 ^ d) → V l E RX5 cX5_meanOf 13 (Option.some FieldType.long) "meanOf" ({ frames := 4, cells := 0, slots := 0, locals := 92 }) [(m0, .inr (5, [.ref ma, .int (nI nt), .int (nI pp), .int (th), .ref mp, .int (rn), .int (ro), .int (to), .int (wt), .int (hn), .int (ho), .ref mt, .int (nI tl), .int (fa), .int (bk), .int (ba), .int (spt), .int (hre), .int (tok), .int (val), .ref mc, .ref ml, .ref mn, .int (nI se), .ref mk, .ref mg, .ref mh, .ref mq, .int (tn)])), (ma, .inl (E.2.1 1, 172, .inl (f)))] 0 0 (Rt (some (.long (lowT (expM v rl (mm0 nt rl f n) (2 ^ rl)) (10 ^ rl) wh))) [(m0, .inr (5, [.ref ma, .int (nI nt), .int (nI pp), .int (255), .ref mp, .int (rn), .int (ro), .int (to), .int (wt), .int (hn), .int (ho), .ref mt, .int (nI tl), .int (fa), .int (bk), .int (ba), .int (spt), .int (hre), .int (tok), .int (val), .ref mc, .ref ml, .ref mn, .int (nI se), .ref mk, .ref mg, .ref mh, .ref mq, .int (tn)])), (ma, .inl (E.2.1 1, 172, .inl (f)))]) 0 0 9 [(9, .int (nI d)), (7, .long (lN t10)), (5, .long (0)), (0, .ref m0), (1, .int (nI v)), (2, .int (n)), (3, .int (0)), (4, .int (wh))] [] [(m0, .inr (5, [.ref ma, .int (nI nt), .int (nI pp), .int (th), .ref mp, .int (rn), .int (ro), .int (to), .int (wt), .int (hn), .int (ho), .ref mt, .int (nI tl), .int (fa), .int (bk), .int (ba), .int (spt), .int (hre), .int (tok), .int (val), .ref mc, .ref ml, .ref mn, .int (nI se), .ref mk, .ref mg, .ref mh, .ref mq, .int (tn)])), (ma, .inl (E.2.1 1, 172, .inl (f)))] := by
    intro D_9
    induction D_9 with
    | zero => intro d t10 h; exact absurd h (Nat.not_lt_zero _)
    | succ D_9 ih_9 =>
      intro d t10 hmu_9 h_9_0 h_9_1
      refine v_iload (pc := 9) 0 dX5_meanOf_9 rfl ?_
      refine v_aload_n (pc := 11) 3 dX5_meanOf_11 rfl rfl ?_
      refine gf_787 (pc := 12) 0 dX5_meanOf_12 rfl rfl ?_
      refine v_bipush (pc := 15) (v := 38) dX5_meanOf_15 (by decide) ?_
      refine v_ialdN (pc := 17) 1 1 (38) dX5_meanOf_17 rfl rfl rfl (by decide) (by decide) ?_
      refine v_st (st' := [.int (nI rl), .int (nI d)]) (by rw [h_38]) ?_
      refine v_cmpN_ge (pc := 18) (a := d) (b := rl) 35 dX5_meanOf_18 (by decide) (by omega) (by omega) (fun c_18 => ?_) (fun c_18 => ?_)
      · skip
        refine v_iconst (pc := 35) (v := 0) dX5_meanOf_35 (by decide) ?_
        refine v_istore (pc := 36) (lv' := [(9, .int (0)), (7, .long (lN t10)), (5, .long (0)), (0, .ref m0), (1, .int (nI v)), (2, .int (n)), (3, .int (0)), (4, .int (wh))]) dX5_meanOf_36 (by decide) rfl ?_
        have loop_38 : ∀ (D_38 : Nat) (i : Nat) (up : Nat) (tt : Int32), 2 ^ rl - i < D_38 → (i ≤ 2 ^ rl) → (up = expM v rl (mm0 nt rl f n) i) → V l E RX5 cX5_meanOf 13 (Option.some FieldType.long) "meanOf" ({ frames := 4, cells := 0, slots := 0, locals := 92 }) [(m0, .inr (5, [.ref ma, .int (nI nt), .int (nI pp), .int (th), .ref mp, .int (rn), .int (ro), .int (to), .int (wt), .int (hn), .int (ho), .ref mt, .int (nI tl), .int (fa), .int (bk), .int (ba), .int (spt), .int (hre), .int (tok), .int (val), .ref mc, .ref ml, .ref mn, .int (nI se), .ref mk, .ref mg, .ref mh, .ref mq, .int (tn)])), (ma, .inl (E.2.1 1, 172, .inl (f)))] 0 0 (Rt (some (.long (lowT (expM v rl (mm0 nt rl f n) (2 ^ rl)) (10 ^ rl) wh))) [(m0, .inr (5, [.ref ma, .int (nI nt), .int (nI pp), .int (255), .ref mp, .int (rn), .int (ro), .int (to), .int (wt), .int (hn), .int (ho), .ref mt, .int (nI tl), .int (fa), .int (bk), .int (ba), .int (spt), .int (hre), .int (tok), .int (val), .ref mc, .ref ml, .ref mn, .int (nI se), .ref mk, .ref mg, .ref mh, .ref mq, .int (tn)])), (ma, .inl (E.2.1 1, 172, .inl (f)))]) 0 0 38 [(9, .int (nI i)), (5, .long (lN up)), (7, .long (lN t10)), (0, .ref m0), (1, .int (nI v)), (2, .int (n)), (3, .int (0)), (4, .int (wh))] [] [(m0, .inr (5, [.ref ma, .int (nI nt), .int (nI pp), .int (tt), .ref mp, .int (rn), .int (ro), .int (to), .int (wt), .int (hn), .int (ho), .ref mt, .int (nI tl), .int (fa), .int (bk), .int (ba), .int (spt), .int (hre), .int (tok), .int (val), .ref mc, .ref ml, .ref mn, .int (nI se), .ref mk, .ref mg, .ref mh, .ref mq, .int (tn)])), (ma, .inl (E.2.1 1, 172, .inl (f)))] := by
          intro D_38
          induction D_38 with
          | zero => intro i up tt h; exact absurd h (Nat.not_lt_zero _)
          | succ D_38 ih_38 =>
            intro i up tt hmu_38 h_38_0 h_38_1
            refine v_iload (pc := 38) 0 dX5_meanOf_38 rfl ?_
            refine v_iconst (pc := 40) (v := 1) dX5_meanOf_40 (by decide) ?_
            refine v_aload_n (pc := 41) 3 dX5_meanOf_41 rfl rfl ?_
            refine gf_787 (pc := 42) 0 dX5_meanOf_42 rfl rfl ?_
            refine v_bipush (pc := 45) (v := 38) dX5_meanOf_45 (by decide) ?_
            refine v_ialdN (pc := 47) 1 1 (38) dX5_meanOf_47 rfl rfl rfl (by decide) (by decide) ?_
            refine v_ishl (pc := 48) dX5_meanOf_48 ?_
            refine v_st (st' := [.int (nI (2 ^ rl)), .int (nI i)]) (by rw [h_38, pw31 rl (by omega)]) ?_
            refine v_cmpN_ge (pc := 49) (a := i) (b := 2 ^ rl) 166 dX5_meanOf_49 (by decide) (by omega) (by omega) (fun c_49 => ?_) (fun c_49 => ?_)
            · skip
              refine v_aload_n (pc := 166) 3 dX5_meanOf_166 rfl rfl ?_
              refine v_sipush (pc := 167) (v := 255) dX5_meanOf_167 (by decide) ?_
              refine pf_790 (pc := 170) (ws' := [(m0, .inr (5, [.ref ma, .int (nI nt), .int (nI pp), .int (255), .ref mp, .int (rn), .int (ro), .int (to), .int (wt), .int (hn), .int (ho), .ref mt, .int (nI tl), .int (fa), .int (bk), .int (ba), .int (spt), .int (hre), .int (tok), .int (val), .ref mc, .ref ml, .ref mn, .int (nI se), .ref mk, .ref mg, .ref mh, .ref mq, .int (tn)])), (ma, .inl (E.2.1 1, 172, .inl (f)))]) 0 dX5_meanOf_170 rfl rfl rfl (Nat.le_of_ble_eq_true rfl) rfl ?_
              refine v_lload (pc := 173) 1 dX5_meanOf_173 rfl ?_
              refine v_lload (pc := 175) 2 dX5_meanOf_175 rfl ?_
              refine v_iload (pc := 177) 7 dX5_meanOf_177 rfl ?_
              refine v_callS (pc := 179) (rest := []) [] lk_1137 (c_X5_lowest l E up t10 wh (by rw [h_9_1]; exact Nat.pow_pos (by decide)) (by have e := expM_le (rl := rl) h_v h_rl (g := mm0 nt rl f n) mm0_le i; omega) (by have e : d = rl := (by omega); have e2 := ten_rl h_rl; rw [h_9_1, e]; omega)) dX5_meanOf_179 rfl rfl (Nat.le_of_ble_eq_true rfl) (by decide) (by decide) rfl (Rt.len rfl) (Rt.go ?_)
              refine v_w (ws' := [(m0, .inr (5, [.ref ma, .int (nI nt), .int (nI pp), .int (255), .ref mp, .int (rn), .int (ro), .int (to), .int (wt), .int (hn), .int (ho), .ref mt, .int (nI tl), .int (fa), .int (bk), .int (ba), .int (spt), .int (hre), .int (tok), .int (val), .ref mc, .ref ml, .ref mn, .int (nI se), .ref mk, .ref mg, .ref mh, .ref mq, .int (tn)])), (ma, .inl (E.2.1 1, 172, .inl (f)))]) rfl ?_
              refine v_st (st' := [.long (lowT up t10 wh)]) rfl ?_
              refine v_lret (pc := 182) dX5_meanOf_182 rfl ⟨rfl, rfl⟩ (Rt.l2 ?_ ?_)
              · skip
                obtain rfl : i = 2 ^ rl := by omega
                obtain rfl : d = rl := by omega
                rw [h_38_1, h_9_1]
              · skip
                rfl
            · skip
              refine v_aload_n (pc := 52) 3 dX5_meanOf_52 rfl rfl ?_
              refine v_iload (pc := 53) 0 dX5_meanOf_53 rfl ?_
              refine pf_790 (pc := 55) (ws' := [(m0, .inr (5, [.ref ma, .int (nI nt), .int (nI pp), .int (nI i), .ref mp, .int (rn), .int (ro), .int (to), .int (wt), .int (hn), .int (ho), .ref mt, .int (nI tl), .int (fa), .int (bk), .int (ba), .int (spt), .int (hre), .int (tok), .int (val), .ref mc, .ref ml, .ref mn, .int (nI se), .ref mk, .ref mg, .ref mh, .ref mq, .int (tn)])), (ma, .inl (E.2.1 1, 172, .inl (f)))]) 0 dX5_meanOf_55 rfl rfl rfl (Nat.le_of_ble_eq_true rfl) rfl ?_
              refine v_iload_n (pc := 58) 6 dX5_meanOf_58 rfl rfl ?_
              refine v_if_ne (pc := 59) 79 dX5_meanOf_59 (by decide) (fun c => absurd c (by decide)) (fun _ => ?_)
              refine v_aload_n (pc := 62) 3 dX5_meanOf_62 rfl rfl ?_
              refine v_iload_n (pc := 63) 5 dX5_meanOf_63 rfl rfl ?_
              refine v_iconst (pc := 64) (v := 1) dX5_meanOf_64 (by decide) ?_
              refine v_callV (pc := 65) (rest := []) [0, 1] 0 lk_1108 (c_X5_canBe l E m0 ma mp mt mc ml mn mk mg mh mq nt pp rl tl se (nI i) rn ro to wt hn ho fa bk ba spt hre tok val tn f n True inferInstance (by first | assumption | omega) (by first | assumption | omega) (by first | assumption | omega)) dX5_meanOf_65 rfl rfl (Nat.le_of_ble_eq_true rfl) (by decide) rfl rfl rfl (by decide) rfl (Rt.len rfl) (Rt.go ?_)
              refine v_w (ws' := [(m0, .inr (5, [.ref ma, .int (nI nt), .int (nI pp), .int ((nI i)), .ref mp, .int (rn), .int (ro), .int (to), .int (wt), .int (hn), .int (ho), .ref mt, .int (nI tl), .int (fa), .int (bk), .int (ba), .int (spt), .int (hre), .int (tok), .int (val), .ref mc, .ref ml, .ref mn, .int (nI se), .ref mk, .ref mg, .ref mh, .ref mq, .int (tn)])), (ma, .inl (E.2.1 1, 172, .inl (f)))]) rfl ?_
              refine v_st (st' := [.int (if anyB (cbQ rl (nI i) f n True) (2 ^ nt) = true then 1 else 0)]) rfl ?_
              suffices J_68 : V l E RX5 cX5_meanOf 13 (Option.some FieldType.long) "meanOf" ({ frames := 4, cells := 0, slots := 0, locals := 92 }) [(m0, .inr (5, [.ref ma, .int (nI nt), .int (nI pp), .int (th), .ref mp, .int (rn), .int (ro), .int (to), .int (wt), .int (hn), .int (ho), .ref mt, .int (nI tl), .int (fa), .int (bk), .int (ba), .int (spt), .int (hre), .int (tok), .int (val), .ref mc, .ref ml, .ref mn, .int (nI se), .ref mk, .ref mg, .ref mh, .ref mq, .int (tn)])), (ma, .inl (E.2.1 1, 172, .inl (f)))] 0 0 (Rt (some (.long (lowT (expM v rl (mm0 nt rl f n) (2 ^ rl)) (10 ^ rl) wh))) [(m0, .inr (5, [.ref ma, .int (nI nt), .int (nI pp), .int (255), .ref mp, .int (rn), .int (ro), .int (to), .int (wt), .int (hn), .int (ho), .ref mt, .int (nI tl), .int (fa), .int (bk), .int (ba), .int (spt), .int (hre), .int (tok), .int (val), .ref mc, .ref ml, .ref mn, .int (nI se), .ref mk, .ref mg, .ref mh, .ref mq, .int (tn)])), (ma, .inl (E.2.1 1, 172, .inl (f)))]) 0 0 104 [(9, .int (nI i)), (5, .long (lN up)), (7, .long (lN t10)), (0, .ref m0), (1, .int (nI v)), (2, .int (n)), (3, .int (0)), (4, .int (wh))] [.long (if ¬ (anyB (cbQ rl (nI i) f n True) (2 ^ nt) = true) then 0 else 1)] [(m0, .inr (5, [.ref ma, .int (nI nt), .int (nI pp), .int ((nI i)), .ref mp, .int (rn), .int (ro), .int (to), .int (wt), .int (hn), .int (ho), .ref mt, .int (nI tl), .int (fa), .int (bk), .int (ba), .int (spt), .int (hre), .int (tok), .int (val), .ref mc, .ref ml, .ref mn, .int (nI se), .ref mk, .ref mg, .ref mh, .ref mq, .int (tn)])), (ma, .inl (E.2.1 1, 172, .inl (f)))] by
                refine v_ifB_eq (pc := 68) 75 dX5_meanOf_68 (by decide) (fun c_68 => ?_) (fun c_68 => ?_)
                · skip
                  refine v_lconst (pc := 75) (v := 0) dX5_meanOf_75 (by decide) ?_
                  refine v_goto (pc := 76) 104 dX5_meanOf_76 (by decide) ?_
                  refine v_st ?_ J_68
                  rw [if_pos (show ¬ (anyB (cbQ rl (nI i) f n True) (2 ^ nt) = true) from c_68)]
                · skip
                  refine v_lconst (pc := 71) (v := 1) dX5_meanOf_71 (by decide) ?_
                  refine v_goto (pc := 72) 104 dX5_meanOf_72 (by decide) ?_
                  refine v_st ?_ J_68
                  rw [if_neg (show ¬ (¬ (anyB (cbQ rl (nI i) f n True) (2 ^ nt) = true)) from (by first | exact c_68 | omega | exact fun q => q c_68))]
              refine v_st (st' := [.long (lN (mm0 nt rl f n i))]) (by rw [lnif]; rfl) ?_
              refine v_lstore (pc := 104) (lv' := [(10, .long (lN (mm0 nt rl f n i))), (9, .int (nI i)), (5, .long (lN up)), (7, .long (lN t10)), (0, .ref m0), (1, .int (nI v)), (2, .int (n)), (3, .int (0)), (4, .int (wh))]) dX5_meanOf_104 (by decide) rfl ?_
              refine v_iconst (pc := 106) (v := 0) dX5_meanOf_106 (by decide) ?_
              refine v_istore (pc := 107) (lv' := [(12, .int (0)), (10, .long (lN (mm0 nt rl f n i))), (9, .int (nI i)), (5, .long (lN up)), (7, .long (lN t10)), (0, .ref m0), (1, .int (nI v)), (2, .int (n)), (3, .int (0)), (4, .int (wh))]) dX5_meanOf_107 (by decide) rfl ?_
              have loop_109 : ∀ (D_109 : Nat) (k : Nat) (wv : Nat), rl - k < D_109 → (k ≤ rl) → (wv = mm0 nt rl f n i * prW v i k) → V l E RX5 cX5_meanOf 13 (Option.some FieldType.long) "meanOf" ({ frames := 4, cells := 0, slots := 0, locals := 92 }) [(m0, .inr (5, [.ref ma, .int (nI nt), .int (nI pp), .int (th), .ref mp, .int (rn), .int (ro), .int (to), .int (wt), .int (hn), .int (ho), .ref mt, .int (nI tl), .int (fa), .int (bk), .int (ba), .int (spt), .int (hre), .int (tok), .int (val), .ref mc, .ref ml, .ref mn, .int (nI se), .ref mk, .ref mg, .ref mh, .ref mq, .int (tn)])), (ma, .inl (E.2.1 1, 172, .inl (f)))] 0 0 (Rt (some (.long (lowT (expM v rl (mm0 nt rl f n) (2 ^ rl)) (10 ^ rl) wh))) [(m0, .inr (5, [.ref ma, .int (nI nt), .int (nI pp), .int (255), .ref mp, .int (rn), .int (ro), .int (to), .int (wt), .int (hn), .int (ho), .ref mt, .int (nI tl), .int (fa), .int (bk), .int (ba), .int (spt), .int (hre), .int (tok), .int (val), .ref mc, .ref ml, .ref mn, .int (nI se), .ref mk, .ref mg, .ref mh, .ref mq, .int (tn)])), (ma, .inl (E.2.1 1, 172, .inl (f)))]) 0 0 109 [(12, .int (nI k)), (10, .long (lN wv)), (9, .int (nI i)), (5, .long (lN up)), (7, .long (lN t10)), (0, .ref m0), (1, .int (nI v)), (2, .int (n)), (3, .int (0)), (4, .int (wh))] [] [(m0, .inr (5, [.ref ma, .int (nI nt), .int (nI pp), .int ((nI i)), .ref mp, .int (rn), .int (ro), .int (to), .int (wt), .int (hn), .int (ho), .ref mt, .int (nI tl), .int (fa), .int (bk), .int (ba), .int (spt), .int (hre), .int (tok), .int (val), .ref mc, .ref ml, .ref mn, .int (nI se), .ref mk, .ref mg, .ref mh, .ref mq, .int (tn)])), (ma, .inl (E.2.1 1, 172, .inl (f)))] := by
                intro D_109
                induction D_109 with
                | zero => intro k wv h; exact absurd h (Nat.not_lt_zero _)
                | succ D_109 ih_109 =>
                  intro k wv hmu_109 h_109_0 h_109_1
                  refine v_iload (pc := 109) 0 dX5_meanOf_109 rfl ?_
                  refine v_aload_n (pc := 111) 5 dX5_meanOf_111 rfl rfl ?_
                  refine gf_787 (pc := 112) 0 dX5_meanOf_112 rfl rfl ?_
                  refine v_bipush (pc := 115) (v := 38) dX5_meanOf_115 (by decide) ?_
                  refine v_ialdN (pc := 117) 1 1 (38) dX5_meanOf_117 rfl rfl rfl (by decide) (by decide) ?_
                  refine v_st (st' := [.int (nI rl), .int (nI k)]) (by rw [h_38]) ?_
                  refine v_cmpN_ge (pc := 118) (a := k) (b := rl) 153 dX5_meanOf_118 (by decide) (by omega) (by omega) (fun c_118 => ?_) (fun c_118 => ?_)
                  · skip
                    refine v_lload (pc := 153) 3 dX5_meanOf_153 rfl ?_
                    refine v_lload (pc := 155) 1 dX5_meanOf_155 rfl ?_
                    refine v_ladd (pc := 157) dX5_meanOf_157 ?_
                    refine v_st (st' := [.long (lN (up + wv))]) (by rw [lN_add]) ?_
                    refine v_lstore (pc := 158) (lv' := [(5, .long (lN (up + wv))), (12, .int (nI k)), (10, .long (lN wv)), (9, .int (nI i)), (7, .long (lN t10)), (0, .ref m0), (1, .int (nI v)), (2, .int (n)), (3, .int (0)), (4, .int (wh))]) dX5_meanOf_158 (by decide) rfl ?_
                    refine v_iinc (pc := 160) (v := nI (i + 1)) (lv' := [(9, .int (nI (i + 1))), (5, .long (lN (up + wv))), (12, .int (nI k)), (10, .long (lN wv)), (7, .long (lN t10)), (0, .ref m0), (1, .int (nI v)), (2, .int (n)), (3, .int (0)), (4, .int (wh))]) 3 dX5_meanOf_160 rfl (nI_inc (i) 1) (by decide) rfl ?_
                    refine v_goto (pc := 163) 38 dX5_meanOf_163 (by decide) ?_
                    refine v_lv (lv' := [(9, .int (nI (i + 1))), (5, .long (lN (up + wv))), (7, .long (lN t10)), (0, .ref m0), (1, .int (nI v)), (2, .int (n)), (3, .int (0)), (4, .int (wh))]) [0, 1, 4, 5, 6, 7, 8, 9] rfl ?_
                    refine ih_38 (i + 1) (up + wv) (nI i) (by omega) ?_ ?_
                    · omega
                    · obtain rfl : k = rl := by omega
                      rw [h_109_1, h_38_1]; rfl
                  · skip
                    refine v_lload (pc := 121) 1 dX5_meanOf_121 rfl ?_
                    refine v_iload (pc := 123) 2 dX5_meanOf_123 rfl ?_
                    refine v_iload (pc := 125) 0 dX5_meanOf_125 rfl ?_
                    refine v_ishr (pc := 127) dX5_meanOf_127 ?_
                    refine v_iconst (pc := 128) (v := 1) dX5_meanOf_128 (by decide) ?_
                    refine v_iand (pc := 129) dX5_meanOf_129 ?_
                    refine v_iconst (pc := 130) (v := 1) dX5_meanOf_130 (by decide) ?_
                    suffices J_131 : V l E RX5 cX5_meanOf 13 (Option.some FieldType.long) "meanOf" ({ frames := 4, cells := 0, slots := 0, locals := 92 }) [(m0, .inr (5, [.ref ma, .int (nI nt), .int (nI pp), .int (th), .ref mp, .int (rn), .int (ro), .int (to), .int (wt), .int (hn), .int (ho), .ref mt, .int (nI tl), .int (fa), .int (bk), .int (ba), .int (spt), .int (hre), .int (tok), .int (val), .ref mc, .ref ml, .ref mn, .int (nI se), .ref mk, .ref mg, .ref mh, .ref mq, .int (tn)])), (ma, .inl (E.2.1 1, 172, .inl (f)))] 0 0 (Rt (some (.long (lowT (expM v rl (mm0 nt rl f n) (2 ^ rl)) (10 ^ rl) wh))) [(m0, .inr (5, [.ref ma, .int (nI nt), .int (nI pp), .int (255), .ref mp, .int (rn), .int (ro), .int (to), .int (wt), .int (hn), .int (ho), .ref mt, .int (nI tl), .int (fa), .int (bk), .int (ba), .int (spt), .int (hre), .int (tok), .int (val), .ref mc, .ref ml, .ref mn, .int (nI se), .ref mk, .ref mg, .ref mh, .ref mq, .int (tn)])), (ma, .inl (E.2.1 1, 172, .inl (f)))]) 0 0 144 [(12, .int (nI k)), (10, .long (lN wv)), (9, .int (nI i)), (5, .long (lN up)), (7, .long (lN t10)), (0, .ref m0), (1, .int (nI v)), (2, .int (n)), (3, .int (0)), (4, .int (wh))] [.long (if ¬ (((nI i) >>> ((nI k) &&& 31)) &&& (1)) = (1) then Int32.toInt64 (nI v) else Int32.toInt64 ((10) - (nI v))), .long (lN wv)] [(m0, .inr (5, [.ref ma, .int (nI nt), .int (nI pp), .int ((nI i)), .ref mp, .int (rn), .int (ro), .int (to), .int (wt), .int (hn), .int (ho), .ref mt, .int (nI tl), .int (fa), .int (bk), .int (ba), .int (spt), .int (hre), .int (tok), .int (val), .ref mc, .ref ml, .ref mn, .int (nI se), .ref mk, .ref mg, .ref mh, .ref mq, .int (tn)])), (ma, .inl (E.2.1 1, 172, .inl (f)))] by
                      refine v_icmp_ne (pc := 131) 142 dX5_meanOf_131 (by decide) (fun c_131 => ?_) (fun c_131 => ?_)
                      · skip
                        refine v_iload_n (pc := 142) 6 dX5_meanOf_142 rfl rfl ?_
                        refine v_i2l (pc := 143) dX5_meanOf_143 ?_
                        refine v_st ?_ J_131
                        rw [if_pos (show ¬ (((nI i) >>> ((nI k) &&& 31)) &&& (1)) = (1) from c_131)]
                      · skip
                        refine v_bipush (pc := 134) (v := 10) dX5_meanOf_134 (by decide) ?_
                        refine v_iload_n (pc := 136) 6 dX5_meanOf_136 rfl rfl ?_
                        refine v_isub (pc := 137) dX5_meanOf_137 ?_
                        refine v_i2l (pc := 138) dX5_meanOf_138 ?_
                        refine v_goto (pc := 139) 144 dX5_meanOf_139 (by decide) ?_
                        refine v_st ?_ J_131
                        rw [if_neg (show ¬ (¬ (((nI i) >>> ((nI k) &&& 31)) &&& (1)) = (1)) from (by first | exact c_131 | omega | exact fun q => q c_131))]
                    refine v_st (st' := [.long (lN (if bt1 (nI i) (nI k) = 1 then 10 - v else v)), .long (lN wv)]) (by exact congrArg (fun z => Value.long z :: _) (w10 h_v)) ?_
                    refine v_lmul (pc := 144) dX5_meanOf_144 ?_
                    refine v_st (st' := [.long (lN (wv * if bt1 (nI i) (nI k) = 1 then 10 - v else v))]) (by rw [lN_mul]) ?_
                    refine v_lstore (pc := 145) (lv' := [(10, .long (lN (wv * if bt1 (nI i) (nI k) = 1 then 10 - v else v))), (12, .int (nI k)), (9, .int (nI i)), (5, .long (lN up)), (7, .long (lN t10)), (0, .ref m0), (1, .int (nI v)), (2, .int (n)), (3, .int (0)), (4, .int (wh))]) dX5_meanOf_145 (by decide) rfl ?_
                    refine v_iinc (pc := 147) (v := nI (k + 1)) (lv' := [(12, .int (nI (k + 1))), (10, .long (lN (wv * if bt1 (nI i) (nI k) = 1 then 10 - v else v))), (9, .int (nI i)), (5, .long (lN up)), (7, .long (lN t10)), (0, .ref m0), (1, .int (nI v)), (2, .int (n)), (3, .int (0)), (4, .int (wh))]) 1 dX5_meanOf_147 rfl (nI_inc (k) 1) (by decide) rfl ?_
                    refine v_goto (pc := 150) 109 dX5_meanOf_150 (by decide) ?_
                    refine v_lv (lv' := [(12, .int (nI (k + 1))), (10, .long (lN (wv * if bt1 (nI i) (nI k) = 1 then 10 - v else v))), (9, .int (nI i)), (5, .long (lN up)), (7, .long (lN t10)), (0, .ref m0), (1, .int (nI v)), (2, .int (n)), (3, .int (0)), (4, .int (wh))]) [0, 1, 2, 3, 4, 5, 6, 7, 8, 9] rfl ?_
                    refine ih_109 (k + 1) (wv * if bt1 (nI i) (nI k) = 1 then 10 - v else v) (by omega) ?_ ?_
                    · omega
                    · simp only [prW]; rw [h_109_1, Nat.mul_assoc]
              refine v_lv (lv' := [(12, .int (nI 0)), (10, .long (lN (mm0 nt rl f n i))), (9, .int (nI i)), (5, .long (lN up)), (7, .long (lN t10)), (0, .ref m0), (1, .int (nI v)), (2, .int (n)), (3, .int (0)), (4, .int (wh))]) [0, 1, 2, 3, 4, 5, 6, 7, 8, 9] rfl ?_
              refine loop_109 ((rl - 0) + 1) 0 (mm0 nt rl f n i) (Nat.lt_succ_self _) ?_ ?_
              · omega
              · simp [prW]
        refine v_lv (lv' := [(9, .int (nI 0)), (5, .long (lN 0)), (7, .long (lN t10)), (0, .ref m0), (1, .int (nI v)), (2, .int (n)), (3, .int (0)), (4, .int (wh))]) [0, 2, 1, 3, 4, 5, 6, 7] rfl ?_
        refine loop_38 ((2 ^ rl - 0) + 1) 0 0 th (Nat.lt_succ_self _) ?_ ?_
        · omega
        · rfl
      · skip
        refine v_lload (pc := 21) 1 dX5_meanOf_21 rfl ?_
        refine v_ldc2 (pc := 23) dX5_meanOf_23 tb_1132 ?_
        refine v_lmul (pc := 26) dX5_meanOf_26 ?_
        refine v_st (st' := [.long (lN (t10 * 10))]) (by exact congrArg (fun z => Value.long z :: _) (lN_mul t10 10)) ?_
        refine v_lstore (pc := 27) (lv' := [(7, .long (lN (t10 * 10))), (9, .int (nI d)), (5, .long (0)), (0, .ref m0), (1, .int (nI v)), (2, .int (n)), (3, .int (0)), (4, .int (wh))]) dX5_meanOf_27 (by decide) rfl ?_
        refine v_iinc (pc := 29) (v := nI (d + 1)) (lv' := [(9, .int (nI (d + 1))), (7, .long (lN (t10 * 10))), (5, .long (0)), (0, .ref m0), (1, .int (nI v)), (2, .int (n)), (3, .int (0)), (4, .int (wh))]) 1 dX5_meanOf_29 rfl (nI_inc (d) 1) (by decide) rfl ?_
        refine v_goto (pc := 32) 9 dX5_meanOf_32 (by decide) ?_
        refine v_lv (lv' := [(9, .int (nI (d + 1))), (7, .long (lN (t10 * 10))), (5, .long (0)), (0, .ref m0), (1, .int (nI v)), (2, .int (n)), (3, .int (0)), (4, .int (wh))]) [0, 1, 2, 3, 4, 5, 6, 7] rfl ?_
        refine ih_9 (d + 1) (t10 * 10) (by omega) ?_ ?_
        · omega
        · rw [h_9_1]; rfl
  refine v_lv (lv' := [(9, .int (nI 0)), (7, .long (lN 1)), (5, .long (0)), (0, .ref m0), (1, .int (nI v)), (2, .int (n)), (3, .int (0)), (4, .int (wh))]) [0, 1, 2, 3, 4, 5, 6, 7] rfl ?_
  refine loop_9 ((rl - 0) + 1) 0 1 (Nat.lt_succ_self _) ?_ ?_
  · omega
  · rfl
theorem c1_X5_meanOf (l : Launch) (E : VE) (m0 : Nat) (ma : Nat) (mp : Nat) (mt : Nat) (mc : Nat) (ml : Nat) (mn : Nat) (mk : Nat) (mg : Nat) (mh : Nat) (mq : Nat) (nt : Nat) (pp : Nat) (rl : Nat) (tl : Nat) (se : Nat) (th : Int32) (rn : Int32) (ro : Int32) (to : Int32) (wt : Int32) (hn : Int32) (ho : Int32) (fa : Int32) (bk : Int32) (ba : Int32) (spt : Int32) (hre : Int32) (tok : Int32) (val : Int32) (tn : Int32) (f : Nat → Int32) (v : Nat) (wh : Int32) (h_rl : rl ≤ 8) (h_38 : f 38 = nI rl) (h_nt : nt ≤ 6) (h_v : v ≤ 10) : Ct l E yX5_meanOf cX5_meanOf 13 (Option.some FieldType.long) 4 90 0 0 [.ref m0, .int (nI v), .int (0), .int (1), .int (wh)] [(m0, .inr (5, [.ref ma, .int (nI nt), .int (nI pp), .int (th), .ref mp, .int (rn), .int (ro), .int (to), .int (wt), .int (hn), .int (ho), .ref mt, .int (nI tl), .int (fa), .int (bk), .int (ba), .int (spt), .int (hre), .int (tok), .int (val), .ref mc, .ref ml, .ref mn, .int (nI se), .ref mk, .ref mg, .ref mh, .ref mq, .int (tn)])), (ma, .inl (E.2.1 1, 172, .inl (f)))] (Rt (some (.long (lowT (expM v rl (mm1 nt rl f) (2 ^ rl)) (10 ^ rl) wh))) [(m0, .inr (5, [.ref ma, .int (nI nt), .int (nI pp), .int (255), .ref mp, .int (rn), .int (ro), .int (to), .int (wt), .int (hn), .int (ho), .ref mt, .int (nI tl), .int (fa), .int (bk), .int (ba), .int (spt), .int (hre), .int (tok), .int (val), .ref mc, .ref ml, .ref mn, .int (nI se), .ref mk, .ref mg, .ref mh, .ref mq, .int (tn)])), (ma, .inl (E.2.1 1, 172, .inl (f)))]) := by
  refine Ct.of (own := RX5) (nm := "meanOf") (lv := [(0, .ref m0), (1, .int (nI v)), (2, .int (0)), (3, .int (1)), (4, .int (wh))]) (by decide) rfl rfl (Nat.le_of_ble_eq_true rfl) rfl ?_
  have h256 := pow_rl h_rl
  have h0q := p1 rl
  have h64 := p64 h_nt
  have h0p := p1 nt
  refine v_lconst (pc := 0) (v := 0) dX5_meanOf_0 (by decide) ?_
  refine v_lstore (pc := 1) (lv' := [(5, .long (0)), (0, .ref m0), (1, .int (nI v)), (2, .int (0)), (3, .int (1)), (4, .int (wh))]) dX5_meanOf_1 (by decide) rfl ?_
  refine v_lconst (pc := 3) (v := 1) dX5_meanOf_3 (by decide) ?_
  refine v_lstore (pc := 4) (lv' := [(7, .long (1)), (5, .long (0)), (0, .ref m0), (1, .int (nI v)), (2, .int (0)), (3, .int (1)), (4, .int (wh))]) dX5_meanOf_4 (by decide) rfl ?_
  refine v_iconst (pc := 6) (v := 0) dX5_meanOf_6 (by decide) ?_
  refine v_istore (pc := 7) (lv' := [(9, .int (0)), (7, .long (1)), (5, .long (0)), (0, .ref m0), (1, .int (nI v)), (2, .int (0)), (3, .int (1)), (4, .int (wh))]) dX5_meanOf_7 (by decide) rfl ?_
  have loop_9 : ∀ (D_9 : Nat) (d : Nat) (t10 : Nat), rl - d < D_9 → (d ≤ rl) → (t10 = 10 ^ d) → V l E RX5 cX5_meanOf 13 (Option.some FieldType.long) "meanOf" ({ frames := 4, cells := 0, slots := 0, locals := 90 }) [(m0, .inr (5, [.ref ma, .int (nI nt), .int (nI pp), .int (th), .ref mp, .int (rn), .int (ro), .int (to), .int (wt), .int (hn), .int (ho), .ref mt, .int (nI tl), .int (fa), .int (bk), .int (ba), .int (spt), .int (hre), .int (tok), .int (val), .ref mc, .ref ml, .ref mn, .int (nI se), .ref mk, .ref mg, .ref mh, .ref mq, .int (tn)])), (ma, .inl (E.2.1 1, 172, .inl (f)))] 0 0 (Rt (some (.long (lowT (expM v rl (mm1 nt rl f) (2 ^ rl)) (10 ^ rl) wh))) [(m0, .inr (5, [.ref ma, .int (nI nt), .int (nI pp), .int (255), .ref mp, .int (rn), .int (ro), .int (to), .int (wt), .int (hn), .int (ho), .ref mt, .int (nI tl), .int (fa), .int (bk), .int (ba), .int (spt), .int (hre), .int (tok), .int (val), .ref mc, .ref ml, .ref mn, .int (nI se), .ref mk, .ref mg, .ref mh, .ref mq, .int (tn)])), (ma, .inl (E.2.1 1, 172, .inl (f)))]) 0 0 9 [(9, .int (nI d)), (7, .long (lN t10)), (5, .long (0)), (0, .ref m0), (1, .int (nI v)), (2, .int (0)), (3, .int (1)), (4, .int (wh))] [] [(m0, .inr (5, [.ref ma, .int (nI nt), .int (nI pp), .int (th), .ref mp, .int (rn), .int (ro), .int (to), .int (wt), .int (hn), .int (ho), .ref mt, .int (nI tl), .int (fa), .int (bk), .int (ba), .int (spt), .int (hre), .int (tok), .int (val), .ref mc, .ref ml, .ref mn, .int (nI se), .ref mk, .ref mg, .ref mh, .ref mq, .int (tn)])), (ma, .inl (E.2.1 1, 172, .inl (f)))] := by
    intro D_9
    induction D_9 with
    | zero => intro d t10 h; exact absurd h (Nat.not_lt_zero _)
    | succ D_9 ih_9 =>
      intro d t10 hmu_9 h_9_0 h_9_1
      refine v_iload (pc := 9) 0 dX5_meanOf_9 rfl ?_
      refine v_aload_n (pc := 11) 3 dX5_meanOf_11 rfl rfl ?_
      refine gf_787 (pc := 12) 0 dX5_meanOf_12 rfl rfl ?_
      refine v_bipush (pc := 15) (v := 38) dX5_meanOf_15 (by decide) ?_
      refine v_ialdN (pc := 17) 1 1 (38) dX5_meanOf_17 rfl rfl rfl (by decide) (by decide) ?_
      refine v_st (st' := [.int (nI rl), .int (nI d)]) (by rw [h_38]) ?_
      refine v_cmpN_ge (pc := 18) (a := d) (b := rl) 35 dX5_meanOf_18 (by decide) (by omega) (by omega) (fun c_18 => ?_) (fun c_18 => ?_)
      · skip
        refine v_iconst (pc := 35) (v := 0) dX5_meanOf_35 (by decide) ?_
        refine v_istore (pc := 36) (lv' := [(9, .int (0)), (7, .long (lN t10)), (5, .long (0)), (0, .ref m0), (1, .int (nI v)), (2, .int (0)), (3, .int (1)), (4, .int (wh))]) dX5_meanOf_36 (by decide) rfl ?_
        have loop_38 : ∀ (D_38 : Nat) (i : Nat) (up : Nat) (tt : Int32), 2 ^ rl - i < D_38 → (i ≤ 2 ^ rl) → (up = expM v rl (mm1 nt rl f) i) → V l E RX5 cX5_meanOf 13 (Option.some FieldType.long) "meanOf" ({ frames := 4, cells := 0, slots := 0, locals := 90 }) [(m0, .inr (5, [.ref ma, .int (nI nt), .int (nI pp), .int (th), .ref mp, .int (rn), .int (ro), .int (to), .int (wt), .int (hn), .int (ho), .ref mt, .int (nI tl), .int (fa), .int (bk), .int (ba), .int (spt), .int (hre), .int (tok), .int (val), .ref mc, .ref ml, .ref mn, .int (nI se), .ref mk, .ref mg, .ref mh, .ref mq, .int (tn)])), (ma, .inl (E.2.1 1, 172, .inl (f)))] 0 0 (Rt (some (.long (lowT (expM v rl (mm1 nt rl f) (2 ^ rl)) (10 ^ rl) wh))) [(m0, .inr (5, [.ref ma, .int (nI nt), .int (nI pp), .int (255), .ref mp, .int (rn), .int (ro), .int (to), .int (wt), .int (hn), .int (ho), .ref mt, .int (nI tl), .int (fa), .int (bk), .int (ba), .int (spt), .int (hre), .int (tok), .int (val), .ref mc, .ref ml, .ref mn, .int (nI se), .ref mk, .ref mg, .ref mh, .ref mq, .int (tn)])), (ma, .inl (E.2.1 1, 172, .inl (f)))]) 0 0 38 [(9, .int (nI i)), (5, .long (lN up)), (7, .long (lN t10)), (0, .ref m0), (1, .int (nI v)), (2, .int (0)), (3, .int (1)), (4, .int (wh))] [] [(m0, .inr (5, [.ref ma, .int (nI nt), .int (nI pp), .int (tt), .ref mp, .int (rn), .int (ro), .int (to), .int (wt), .int (hn), .int (ho), .ref mt, .int (nI tl), .int (fa), .int (bk), .int (ba), .int (spt), .int (hre), .int (tok), .int (val), .ref mc, .ref ml, .ref mn, .int (nI se), .ref mk, .ref mg, .ref mh, .ref mq, .int (tn)])), (ma, .inl (E.2.1 1, 172, .inl (f)))] := by
          intro D_38
          induction D_38 with
          | zero => intro i up tt h; exact absurd h (Nat.not_lt_zero _)
          | succ D_38 ih_38 =>
            intro i up tt hmu_38 h_38_0 h_38_1
            refine v_iload (pc := 38) 0 dX5_meanOf_38 rfl ?_
            refine v_iconst (pc := 40) (v := 1) dX5_meanOf_40 (by decide) ?_
            refine v_aload_n (pc := 41) 3 dX5_meanOf_41 rfl rfl ?_
            refine gf_787 (pc := 42) 0 dX5_meanOf_42 rfl rfl ?_
            refine v_bipush (pc := 45) (v := 38) dX5_meanOf_45 (by decide) ?_
            refine v_ialdN (pc := 47) 1 1 (38) dX5_meanOf_47 rfl rfl rfl (by decide) (by decide) ?_
            refine v_ishl (pc := 48) dX5_meanOf_48 ?_
            refine v_st (st' := [.int (nI (2 ^ rl)), .int (nI i)]) (by rw [h_38, pw31 rl (by omega)]) ?_
            refine v_cmpN_ge (pc := 49) (a := i) (b := 2 ^ rl) 166 dX5_meanOf_49 (by decide) (by omega) (by omega) (fun c_49 => ?_) (fun c_49 => ?_)
            · skip
              refine v_aload_n (pc := 166) 3 dX5_meanOf_166 rfl rfl ?_
              refine v_sipush (pc := 167) (v := 255) dX5_meanOf_167 (by decide) ?_
              refine pf_790 (pc := 170) (ws' := [(m0, .inr (5, [.ref ma, .int (nI nt), .int (nI pp), .int (255), .ref mp, .int (rn), .int (ro), .int (to), .int (wt), .int (hn), .int (ho), .ref mt, .int (nI tl), .int (fa), .int (bk), .int (ba), .int (spt), .int (hre), .int (tok), .int (val), .ref mc, .ref ml, .ref mn, .int (nI se), .ref mk, .ref mg, .ref mh, .ref mq, .int (tn)])), (ma, .inl (E.2.1 1, 172, .inl (f)))]) 0 dX5_meanOf_170 rfl rfl rfl (Nat.le_of_ble_eq_true rfl) rfl ?_
              refine v_lload (pc := 173) 1 dX5_meanOf_173 rfl ?_
              refine v_lload (pc := 175) 2 dX5_meanOf_175 rfl ?_
              refine v_iload (pc := 177) 7 dX5_meanOf_177 rfl ?_
              refine v_callS (pc := 179) (rest := []) [] lk_1137 (c_X5_lowest l E up t10 wh (by rw [h_9_1]; exact Nat.pow_pos (by decide)) (by have e := expM_le (rl := rl) h_v h_rl (g := mm1 nt rl f) mm1_le i; omega) (by have e : d = rl := (by omega); have e2 := ten_rl h_rl; rw [h_9_1, e]; omega)) dX5_meanOf_179 rfl rfl (Nat.le_of_ble_eq_true rfl) (by decide) (by decide) rfl (Rt.len rfl) (Rt.go ?_)
              refine v_w (ws' := [(m0, .inr (5, [.ref ma, .int (nI nt), .int (nI pp), .int (255), .ref mp, .int (rn), .int (ro), .int (to), .int (wt), .int (hn), .int (ho), .ref mt, .int (nI tl), .int (fa), .int (bk), .int (ba), .int (spt), .int (hre), .int (tok), .int (val), .ref mc, .ref ml, .ref mn, .int (nI se), .ref mk, .ref mg, .ref mh, .ref mq, .int (tn)])), (ma, .inl (E.2.1 1, 172, .inl (f)))]) rfl ?_
              refine v_st (st' := [.long (lowT up t10 wh)]) rfl ?_
              refine v_lret (pc := 182) dX5_meanOf_182 rfl ⟨rfl, rfl⟩ (Rt.l2 ?_ ?_)
              · skip
                obtain rfl : i = 2 ^ rl := by omega
                obtain rfl : d = rl := by omega
                rw [h_38_1, h_9_1]
              · skip
                rfl
            · skip
              refine v_aload_n (pc := 52) 3 dX5_meanOf_52 rfl rfl ?_
              refine v_iload (pc := 53) 0 dX5_meanOf_53 rfl ?_
              refine pf_790 (pc := 55) (ws' := [(m0, .inr (5, [.ref ma, .int (nI nt), .int (nI pp), .int (nI i), .ref mp, .int (rn), .int (ro), .int (to), .int (wt), .int (hn), .int (ho), .ref mt, .int (nI tl), .int (fa), .int (bk), .int (ba), .int (spt), .int (hre), .int (tok), .int (val), .ref mc, .ref ml, .ref mn, .int (nI se), .ref mk, .ref mg, .ref mh, .ref mq, .int (tn)])), (ma, .inl (E.2.1 1, 172, .inl (f)))]) 0 dX5_meanOf_55 rfl rfl rfl (Nat.le_of_ble_eq_true rfl) rfl ?_
              refine v_iload_n (pc := 58) 6 dX5_meanOf_58 rfl rfl ?_
              refine v_if_ne (pc := 59) 79 dX5_meanOf_59 (by decide) (fun _ => ?_) (fun c => absurd c (by decide))
              refine v_iload_n (pc := 79) 6 dX5_meanOf_79 rfl rfl ?_
              refine v_iconst (pc := 80) (v := 1) dX5_meanOf_80 (by decide) ?_
              refine v_icmp_ne (pc := 81) 99 dX5_meanOf_81 (by decide) (fun c => absurd c (by decide)) (fun _ => ?_)
              refine v_aload_n (pc := 84) 3 dX5_meanOf_84 rfl rfl ?_
              refine v_callV (pc := 85) (rest := []) [0, 1] 0 lk_1069 (c_X5_agreeing l E m0 ma mp mt mc ml mn mk mg mh mq nt pp rl tl se (nI i) rn ro to wt hn ho fa bk ba spt hre tok val tn f (by first | assumption | omega) (by first | assumption | omega) (by first | assumption | omega)) dX5_meanOf_85 rfl rfl (Nat.le_of_ble_eq_true rfl) (by decide) rfl rfl rfl (by decide) rfl (Rt.len rfl) (Rt.go ?_)
              refine v_w (ws' := [(m0, .inr (5, [.ref ma, .int (nI nt), .int (nI pp), .int ((nI i)), .ref mp, .int (rn), .int (ro), .int (to), .int (wt), .int (hn), .int (ho), .ref mt, .int (nI tl), .int (fa), .int (bk), .int (ba), .int (spt), .int (hre), .int (tok), .int (val), .ref mc, .ref ml, .ref mn, .int (nI se), .ref mk, .ref mg, .ref mh, .ref mq, .int (tn)])), (ma, .inl (E.2.1 1, 172, .inl (f)))]) rfl ?_
              refine v_st (st' := [.int (nI (cntM (agM rl (nI i) f) (2 ^ nt)))]) rfl ?_
              suffices J_88 : V l E RX5 cX5_meanOf 13 (Option.some FieldType.long) "meanOf" ({ frames := 4, cells := 0, slots := 0, locals := 90 }) [(m0, .inr (5, [.ref ma, .int (nI nt), .int (nI pp), .int (th), .ref mp, .int (rn), .int (ro), .int (to), .int (wt), .int (hn), .int (ho), .ref mt, .int (nI tl), .int (fa), .int (bk), .int (ba), .int (spt), .int (hre), .int (tok), .int (val), .ref mc, .ref ml, .ref mn, .int (nI se), .ref mk, .ref mg, .ref mh, .ref mq, .int (tn)])), (ma, .inl (E.2.1 1, 172, .inl (f)))] 0 0 (Rt (some (.long (lowT (expM v rl (mm1 nt rl f) (2 ^ rl)) (10 ^ rl) wh))) [(m0, .inr (5, [.ref ma, .int (nI nt), .int (nI pp), .int (255), .ref mp, .int (rn), .int (ro), .int (to), .int (wt), .int (hn), .int (ho), .ref mt, .int (nI tl), .int (fa), .int (bk), .int (ba), .int (spt), .int (hre), .int (tok), .int (val), .ref mc, .ref ml, .ref mn, .int (nI se), .ref mk, .ref mg, .ref mh, .ref mq, .int (tn)])), (ma, .inl (E.2.1 1, 172, .inl (f)))]) 0 0 104 [(9, .int (nI i)), (5, .long (lN up)), (7, .long (lN t10)), (0, .ref m0), (1, .int (nI v)), (2, .int (0)), (3, .int (1)), (4, .int (wh))] [.long (if ¬ (cntM (agM rl (nI i) f) (2 ^ nt)) = 0 then 0 else 1)] [(m0, .inr (5, [.ref ma, .int (nI nt), .int (nI pp), .int ((nI i)), .ref mp, .int (rn), .int (ro), .int (to), .int (wt), .int (hn), .int (ho), .ref mt, .int (nI tl), .int (fa), .int (bk), .int (ba), .int (spt), .int (hre), .int (tok), .int (val), .ref mc, .ref ml, .ref mn, .int (nI se), .ref mk, .ref mg, .ref mh, .ref mq, .int (tn)])), (ma, .inl (E.2.1 1, 172, .inl (f)))] by
                refine v_ifN_ne (pc := 88) (a := cntM (agM rl (nI i) f) (2 ^ nt)) 95 dX5_meanOf_88 (by decide) (by have := cntM_le (agM rl (nI i) f) (2 ^ nt); omega) (fun c_88 => ?_) (fun c_88 => ?_)
                · skip
                  refine v_lconst (pc := 95) (v := 0) dX5_meanOf_95 (by decide) ?_
                  refine v_goto (pc := 96) 104 dX5_meanOf_96 (by decide) ?_
                  refine v_st ?_ J_88
                  rw [if_pos (show ¬ (cntM (agM rl (nI i) f) (2 ^ nt)) = 0 from c_88)]
                · skip
                  refine v_lconst (pc := 91) (v := 1) dX5_meanOf_91 (by decide) ?_
                  refine v_goto (pc := 92) 104 dX5_meanOf_92 (by decide) ?_
                  refine v_st ?_ J_88
                  rw [if_neg (show ¬ (¬ (cntM (agM rl (nI i) f) (2 ^ nt)) = 0) from (by first | exact c_88 | omega | exact fun q => q c_88))]
              refine v_st (st' := [.long (lN (mm1 nt rl f i))]) (by rw [lnif]; rfl) ?_
              refine v_lstore (pc := 104) (lv' := [(10, .long (lN (mm1 nt rl f i))), (9, .int (nI i)), (5, .long (lN up)), (7, .long (lN t10)), (0, .ref m0), (1, .int (nI v)), (2, .int (0)), (3, .int (1)), (4, .int (wh))]) dX5_meanOf_104 (by decide) rfl ?_
              refine v_iconst (pc := 106) (v := 0) dX5_meanOf_106 (by decide) ?_
              refine v_istore (pc := 107) (lv' := [(12, .int (0)), (10, .long (lN (mm1 nt rl f i))), (9, .int (nI i)), (5, .long (lN up)), (7, .long (lN t10)), (0, .ref m0), (1, .int (nI v)), (2, .int (0)), (3, .int (1)), (4, .int (wh))]) dX5_meanOf_107 (by decide) rfl ?_
              have loop_109 : ∀ (D_109 : Nat) (k : Nat) (wv : Nat), rl - k < D_109 → (k ≤ rl) → (wv = mm1 nt rl f i * prW v i k) → V l E RX5 cX5_meanOf 13 (Option.some FieldType.long) "meanOf" ({ frames := 4, cells := 0, slots := 0, locals := 90 }) [(m0, .inr (5, [.ref ma, .int (nI nt), .int (nI pp), .int (th), .ref mp, .int (rn), .int (ro), .int (to), .int (wt), .int (hn), .int (ho), .ref mt, .int (nI tl), .int (fa), .int (bk), .int (ba), .int (spt), .int (hre), .int (tok), .int (val), .ref mc, .ref ml, .ref mn, .int (nI se), .ref mk, .ref mg, .ref mh, .ref mq, .int (tn)])), (ma, .inl (E.2.1 1, 172, .inl (f)))] 0 0 (Rt (some (.long (lowT (expM v rl (mm1 nt rl f) (2 ^ rl)) (10 ^ rl) wh))) [(m0, .inr (5, [.ref ma, .int (nI nt), .int (nI pp), .int (255), .ref mp, .int (rn), .int (ro), .int (to), .int (wt), .int (hn), .int (ho), .ref mt, .int (nI tl), .int (fa), .int (bk), .int (ba), .int (spt), .int (hre), .int (tok), .int (val), .ref mc, .ref ml, .ref mn, .int (nI se), .ref mk, .ref mg, .ref mh, .ref mq, .int (tn)])), (ma, .inl (E.2.1 1, 172, .inl (f)))]) 0 0 109 [(12, .int (nI k)), (10, .long (lN wv)), (9, .int (nI i)), (5, .long (lN up)), (7, .long (lN t10)), (0, .ref m0), (1, .int (nI v)), (2, .int (0)), (3, .int (1)), (4, .int (wh))] [] [(m0, .inr (5, [.ref ma, .int (nI nt), .int (nI pp), .int ((nI i)), .ref mp, .int (rn), .int (ro), .int (to), .int (wt), .int (hn), .int (ho), .ref mt, .int (nI tl), .int (fa), .int (bk), .int (ba), .int (spt), .int (hre), .int (tok), .int (val), .ref mc, .ref ml, .ref mn, .int (nI se), .ref mk, .ref mg, .ref mh, .ref mq, .int (tn)])), (ma, .inl (E.2.1 1, 172, .inl (f)))] := by
                intro D_109
                induction D_109 with
                | zero => intro k wv h; exact absurd h (Nat.not_lt_zero _)
                | succ D_109 ih_109 =>
                  intro k wv hmu_109 h_109_0 h_109_1
                  refine v_iload (pc := 109) 0 dX5_meanOf_109 rfl ?_
                  refine v_aload_n (pc := 111) 5 dX5_meanOf_111 rfl rfl ?_
                  refine gf_787 (pc := 112) 0 dX5_meanOf_112 rfl rfl ?_
                  refine v_bipush (pc := 115) (v := 38) dX5_meanOf_115 (by decide) ?_
                  refine v_ialdN (pc := 117) 1 1 (38) dX5_meanOf_117 rfl rfl rfl (by decide) (by decide) ?_
                  refine v_st (st' := [.int (nI rl), .int (nI k)]) (by rw [h_38]) ?_
                  refine v_cmpN_ge (pc := 118) (a := k) (b := rl) 153 dX5_meanOf_118 (by decide) (by omega) (by omega) (fun c_118 => ?_) (fun c_118 => ?_)
                  · skip
                    refine v_lload (pc := 153) 3 dX5_meanOf_153 rfl ?_
                    refine v_lload (pc := 155) 1 dX5_meanOf_155 rfl ?_
                    refine v_ladd (pc := 157) dX5_meanOf_157 ?_
                    refine v_st (st' := [.long (lN (up + wv))]) (by rw [lN_add]) ?_
                    refine v_lstore (pc := 158) (lv' := [(5, .long (lN (up + wv))), (12, .int (nI k)), (10, .long (lN wv)), (9, .int (nI i)), (7, .long (lN t10)), (0, .ref m0), (1, .int (nI v)), (2, .int (0)), (3, .int (1)), (4, .int (wh))]) dX5_meanOf_158 (by decide) rfl ?_
                    refine v_iinc (pc := 160) (v := nI (i + 1)) (lv' := [(9, .int (nI (i + 1))), (5, .long (lN (up + wv))), (12, .int (nI k)), (10, .long (lN wv)), (7, .long (lN t10)), (0, .ref m0), (1, .int (nI v)), (2, .int (0)), (3, .int (1)), (4, .int (wh))]) 3 dX5_meanOf_160 rfl (nI_inc (i) 1) (by decide) rfl ?_
                    refine v_goto (pc := 163) 38 dX5_meanOf_163 (by decide) ?_
                    refine v_lv (lv' := [(9, .int (nI (i + 1))), (5, .long (lN (up + wv))), (7, .long (lN t10)), (0, .ref m0), (1, .int (nI v)), (2, .int (0)), (3, .int (1)), (4, .int (wh))]) [0, 1, 4, 5, 6, 7, 8, 9] rfl ?_
                    refine ih_38 (i + 1) (up + wv) (nI i) (by omega) ?_ ?_
                    · omega
                    · obtain rfl : k = rl := by omega
                      rw [h_109_1, h_38_1]; rfl
                  · skip
                    refine v_lload (pc := 121) 1 dX5_meanOf_121 rfl ?_
                    refine v_iload (pc := 123) 2 dX5_meanOf_123 rfl ?_
                    refine v_iload (pc := 125) 0 dX5_meanOf_125 rfl ?_
                    refine v_ishr (pc := 127) dX5_meanOf_127 ?_
                    refine v_iconst (pc := 128) (v := 1) dX5_meanOf_128 (by decide) ?_
                    refine v_iand (pc := 129) dX5_meanOf_129 ?_
                    refine v_iconst (pc := 130) (v := 1) dX5_meanOf_130 (by decide) ?_
                    suffices J_131 : V l E RX5 cX5_meanOf 13 (Option.some FieldType.long) "meanOf" ({ frames := 4, cells := 0, slots := 0, locals := 90 }) [(m0, .inr (5, [.ref ma, .int (nI nt), .int (nI pp), .int (th), .ref mp, .int (rn), .int (ro), .int (to), .int (wt), .int (hn), .int (ho), .ref mt, .int (nI tl), .int (fa), .int (bk), .int (ba), .int (spt), .int (hre), .int (tok), .int (val), .ref mc, .ref ml, .ref mn, .int (nI se), .ref mk, .ref mg, .ref mh, .ref mq, .int (tn)])), (ma, .inl (E.2.1 1, 172, .inl (f)))] 0 0 (Rt (some (.long (lowT (expM v rl (mm1 nt rl f) (2 ^ rl)) (10 ^ rl) wh))) [(m0, .inr (5, [.ref ma, .int (nI nt), .int (nI pp), .int (255), .ref mp, .int (rn), .int (ro), .int (to), .int (wt), .int (hn), .int (ho), .ref mt, .int (nI tl), .int (fa), .int (bk), .int (ba), .int (spt), .int (hre), .int (tok), .int (val), .ref mc, .ref ml, .ref mn, .int (nI se), .ref mk, .ref mg, .ref mh, .ref mq, .int (tn)])), (ma, .inl (E.2.1 1, 172, .inl (f)))]) 0 0 144 [(12, .int (nI k)), (10, .long (lN wv)), (9, .int (nI i)), (5, .long (lN up)), (7, .long (lN t10)), (0, .ref m0), (1, .int (nI v)), (2, .int (0)), (3, .int (1)), (4, .int (wh))] [.long (if ¬ (((nI i) >>> ((nI k) &&& 31)) &&& (1)) = (1) then Int32.toInt64 (nI v) else Int32.toInt64 ((10) - (nI v))), .long (lN wv)] [(m0, .inr (5, [.ref ma, .int (nI nt), .int (nI pp), .int ((nI i)), .ref mp, .int (rn), .int (ro), .int (to), .int (wt), .int (hn), .int (ho), .ref mt, .int (nI tl), .int (fa), .int (bk), .int (ba), .int (spt), .int (hre), .int (tok), .int (val), .ref mc, .ref ml, .ref mn, .int (nI se), .ref mk, .ref mg, .ref mh, .ref mq, .int (tn)])), (ma, .inl (E.2.1 1, 172, .inl (f)))] by
                      refine v_icmp_ne (pc := 131) 142 dX5_meanOf_131 (by decide) (fun c_131 => ?_) (fun c_131 => ?_)
                      · skip
                        refine v_iload_n (pc := 142) 6 dX5_meanOf_142 rfl rfl ?_
                        refine v_i2l (pc := 143) dX5_meanOf_143 ?_
                        refine v_st ?_ J_131
                        rw [if_pos (show ¬ (((nI i) >>> ((nI k) &&& 31)) &&& (1)) = (1) from c_131)]
                      · skip
                        refine v_bipush (pc := 134) (v := 10) dX5_meanOf_134 (by decide) ?_
                        refine v_iload_n (pc := 136) 6 dX5_meanOf_136 rfl rfl ?_
                        refine v_isub (pc := 137) dX5_meanOf_137 ?_
                        refine v_i2l (pc := 138) dX5_meanOf_138 ?_
                        refine v_goto (pc := 139) 144 dX5_meanOf_139 (by decide) ?_
                        refine v_st ?_ J_131
                        rw [if_neg (show ¬ (¬ (((nI i) >>> ((nI k) &&& 31)) &&& (1)) = (1)) from (by first | exact c_131 | omega | exact fun q => q c_131))]
                    refine v_st (st' := [.long (lN (if bt1 (nI i) (nI k) = 1 then 10 - v else v)), .long (lN wv)]) (by exact congrArg (fun z => Value.long z :: _) (w10 h_v)) ?_
                    refine v_lmul (pc := 144) dX5_meanOf_144 ?_
                    refine v_st (st' := [.long (lN (wv * if bt1 (nI i) (nI k) = 1 then 10 - v else v))]) (by rw [lN_mul]) ?_
                    refine v_lstore (pc := 145) (lv' := [(10, .long (lN (wv * if bt1 (nI i) (nI k) = 1 then 10 - v else v))), (12, .int (nI k)), (9, .int (nI i)), (5, .long (lN up)), (7, .long (lN t10)), (0, .ref m0), (1, .int (nI v)), (2, .int (0)), (3, .int (1)), (4, .int (wh))]) dX5_meanOf_145 (by decide) rfl ?_
                    refine v_iinc (pc := 147) (v := nI (k + 1)) (lv' := [(12, .int (nI (k + 1))), (10, .long (lN (wv * if bt1 (nI i) (nI k) = 1 then 10 - v else v))), (9, .int (nI i)), (5, .long (lN up)), (7, .long (lN t10)), (0, .ref m0), (1, .int (nI v)), (2, .int (0)), (3, .int (1)), (4, .int (wh))]) 1 dX5_meanOf_147 rfl (nI_inc (k) 1) (by decide) rfl ?_
                    refine v_goto (pc := 150) 109 dX5_meanOf_150 (by decide) ?_
                    refine v_lv (lv' := [(12, .int (nI (k + 1))), (10, .long (lN (wv * if bt1 (nI i) (nI k) = 1 then 10 - v else v))), (9, .int (nI i)), (5, .long (lN up)), (7, .long (lN t10)), (0, .ref m0), (1, .int (nI v)), (2, .int (0)), (3, .int (1)), (4, .int (wh))]) [0, 1, 2, 3, 4, 5, 6, 7, 8, 9] rfl ?_
                    refine ih_109 (k + 1) (wv * if bt1 (nI i) (nI k) = 1 then 10 - v else v) (by omega) ?_ ?_
                    · omega
                    · simp only [prW]; rw [h_109_1, Nat.mul_assoc]
              refine v_lv (lv' := [(12, .int (nI 0)), (10, .long (lN (mm1 nt rl f i))), (9, .int (nI i)), (5, .long (lN up)), (7, .long (lN t10)), (0, .ref m0), (1, .int (nI v)), (2, .int (0)), (3, .int (1)), (4, .int (wh))]) [0, 1, 2, 3, 4, 5, 6, 7, 8, 9] rfl ?_
              refine loop_109 ((rl - 0) + 1) 0 (mm1 nt rl f i) (Nat.lt_succ_self _) ?_ ?_
              · omega
              · simp [prW]
        refine v_lv (lv' := [(9, .int (nI 0)), (5, .long (lN 0)), (7, .long (lN t10)), (0, .ref m0), (1, .int (nI v)), (2, .int (0)), (3, .int (1)), (4, .int (wh))]) [0, 2, 1, 3, 4, 5, 6, 7] rfl ?_
        refine loop_38 ((2 ^ rl - 0) + 1) 0 0 th (Nat.lt_succ_self _) ?_ ?_
        · omega
        · rfl
      · skip
        refine v_lload (pc := 21) 1 dX5_meanOf_21 rfl ?_
        refine v_ldc2 (pc := 23) dX5_meanOf_23 tb_1132 ?_
        refine v_lmul (pc := 26) dX5_meanOf_26 ?_
        refine v_st (st' := [.long (lN (t10 * 10))]) (by exact congrArg (fun z => Value.long z :: _) (lN_mul t10 10)) ?_
        refine v_lstore (pc := 27) (lv' := [(7, .long (lN (t10 * 10))), (9, .int (nI d)), (5, .long (0)), (0, .ref m0), (1, .int (nI v)), (2, .int (0)), (3, .int (1)), (4, .int (wh))]) dX5_meanOf_27 (by decide) rfl ?_
        refine v_iinc (pc := 29) (v := nI (d + 1)) (lv' := [(9, .int (nI (d + 1))), (7, .long (lN (t10 * 10))), (5, .long (0)), (0, .ref m0), (1, .int (nI v)), (2, .int (0)), (3, .int (1)), (4, .int (wh))]) 1 dX5_meanOf_29 rfl (nI_inc (d) 1) (by decide) rfl ?_
        refine v_goto (pc := 32) 9 dX5_meanOf_32 (by decide) ?_
        refine v_lv (lv' := [(9, .int (nI (d + 1))), (7, .long (lN (t10 * 10))), (5, .long (0)), (0, .ref m0), (1, .int (nI v)), (2, .int (0)), (3, .int (1)), (4, .int (wh))]) [0, 1, 2, 3, 4, 5, 6, 7] rfl ?_
        refine ih_9 (d + 1) (t10 * 10) (by omega) ?_ ?_
        · omega
        · rw [h_9_1]; rfl
  refine v_lv (lv' := [(9, .int (nI 0)), (7, .long (lN 1)), (5, .long (0)), (0, .ref m0), (1, .int (nI v)), (2, .int (0)), (3, .int (1)), (4, .int (wh))]) [0, 1, 2, 3, 4, 5, 6, 7] rfl ?_
  refine loop_9 ((rl - 0) + 1) 0 1 (Nat.lt_succ_self _) ?_ ?_
  · omega
  · rfl
theorem c2_X5_meanOf (l : Launch) (E : VE) (m0 : Nat) (ma : Nat) (mp : Nat) (mt : Nat) (mc : Nat) (ml : Nat) (mn : Nat) (mk : Nat) (mg : Nat) (mh : Nat) (mq : Nat) (nt : Nat) (pp : Nat) (rl : Nat) (tl : Nat) (se : Nat) (th : Int32) (rn : Int32) (ro : Int32) (to : Int32) (wt : Int32) (hn : Int32) (ho : Int32) (fa : Int32) (bk : Int32) (ba : Int32) (spt : Int32) (hre : Int32) (tok : Int32) (val : Int32) (tn : Int32) (f : Nat → Int32) (v : Nat) (wh : Int32) (h_rl : rl ≤ 8) (h_38 : f 38 = nI rl) (h_nt : nt ≤ 6) (h_v : v ≤ 10) : Ct l E yX5_meanOf cX5_meanOf 13 (Option.some FieldType.long) 4 90 0 0 [.ref m0, .int (nI v), .int (0), .int (2), .int (wh)] [(m0, .inr (5, [.ref ma, .int (nI nt), .int (nI pp), .int (th), .ref mp, .int (rn), .int (ro), .int (to), .int (wt), .int (hn), .int (ho), .ref mt, .int (nI tl), .int (fa), .int (bk), .int (ba), .int (spt), .int (hre), .int (tok), .int (val), .ref mc, .ref ml, .ref mn, .int (nI se), .ref mk, .ref mg, .ref mh, .ref mq, .int (tn)])), (ma, .inl (E.2.1 1, 172, .inl (f)))] (Rt (some (.long (lowT (expM v rl (mm2 nt rl f) (2 ^ rl)) (10 ^ rl) wh))) [(m0, .inr (5, [.ref ma, .int (nI nt), .int (nI pp), .int (255), .ref mp, .int (rn), .int (ro), .int (to), .int (wt), .int (hn), .int (ho), .ref mt, .int (nI tl), .int (fa), .int (bk), .int (ba), .int (spt), .int (hre), .int (tok), .int (val), .ref mc, .ref ml, .ref mn, .int (nI se), .ref mk, .ref mg, .ref mh, .ref mq, .int (tn)])), (ma, .inl (E.2.1 1, 172, .inl (f)))]) := by
  refine Ct.of (own := RX5) (nm := "meanOf") (lv := [(0, .ref m0), (1, .int (nI v)), (2, .int (0)), (3, .int (2)), (4, .int (wh))]) (by decide) rfl rfl (Nat.le_of_ble_eq_true rfl) rfl ?_
  have h256 := pow_rl h_rl
  have h0q := p1 rl
  have h64 := p64 h_nt
  have h0p := p1 nt
  refine v_lconst (pc := 0) (v := 0) dX5_meanOf_0 (by decide) ?_
  refine v_lstore (pc := 1) (lv' := [(5, .long (0)), (0, .ref m0), (1, .int (nI v)), (2, .int (0)), (3, .int (2)), (4, .int (wh))]) dX5_meanOf_1 (by decide) rfl ?_
  refine v_lconst (pc := 3) (v := 1) dX5_meanOf_3 (by decide) ?_
  refine v_lstore (pc := 4) (lv' := [(7, .long (1)), (5, .long (0)), (0, .ref m0), (1, .int (nI v)), (2, .int (0)), (3, .int (2)), (4, .int (wh))]) dX5_meanOf_4 (by decide) rfl ?_
  refine v_iconst (pc := 6) (v := 0) dX5_meanOf_6 (by decide) ?_
  refine v_istore (pc := 7) (lv' := [(9, .int (0)), (7, .long (1)), (5, .long (0)), (0, .ref m0), (1, .int (nI v)), (2, .int (0)), (3, .int (2)), (4, .int (wh))]) dX5_meanOf_7 (by decide) rfl ?_
  have loop_9 : ∀ (D_9 : Nat) (d : Nat) (t10 : Nat), rl - d < D_9 → (d ≤ rl) → (t10 = 10 ^ d) → V l E RX5 cX5_meanOf 13 (Option.some FieldType.long) "meanOf" ({ frames := 4, cells := 0, slots := 0, locals := 90 }) [(m0, .inr (5, [.ref ma, .int (nI nt), .int (nI pp), .int (th), .ref mp, .int (rn), .int (ro), .int (to), .int (wt), .int (hn), .int (ho), .ref mt, .int (nI tl), .int (fa), .int (bk), .int (ba), .int (spt), .int (hre), .int (tok), .int (val), .ref mc, .ref ml, .ref mn, .int (nI se), .ref mk, .ref mg, .ref mh, .ref mq, .int (tn)])), (ma, .inl (E.2.1 1, 172, .inl (f)))] 0 0 (Rt (some (.long (lowT (expM v rl (mm2 nt rl f) (2 ^ rl)) (10 ^ rl) wh))) [(m0, .inr (5, [.ref ma, .int (nI nt), .int (nI pp), .int (255), .ref mp, .int (rn), .int (ro), .int (to), .int (wt), .int (hn), .int (ho), .ref mt, .int (nI tl), .int (fa), .int (bk), .int (ba), .int (spt), .int (hre), .int (tok), .int (val), .ref mc, .ref ml, .ref mn, .int (nI se), .ref mk, .ref mg, .ref mh, .ref mq, .int (tn)])), (ma, .inl (E.2.1 1, 172, .inl (f)))]) 0 0 9 [(9, .int (nI d)), (7, .long (lN t10)), (5, .long (0)), (0, .ref m0), (1, .int (nI v)), (2, .int (0)), (3, .int (2)), (4, .int (wh))] [] [(m0, .inr (5, [.ref ma, .int (nI nt), .int (nI pp), .int (th), .ref mp, .int (rn), .int (ro), .int (to), .int (wt), .int (hn), .int (ho), .ref mt, .int (nI tl), .int (fa), .int (bk), .int (ba), .int (spt), .int (hre), .int (tok), .int (val), .ref mc, .ref ml, .ref mn, .int (nI se), .ref mk, .ref mg, .ref mh, .ref mq, .int (tn)])), (ma, .inl (E.2.1 1, 172, .inl (f)))] := by
    intro D_9
    induction D_9 with
    | zero => intro d t10 h; exact absurd h (Nat.not_lt_zero _)
    | succ D_9 ih_9 =>
      intro d t10 hmu_9 h_9_0 h_9_1
      refine v_iload (pc := 9) 0 dX5_meanOf_9 rfl ?_
      refine v_aload_n (pc := 11) 3 dX5_meanOf_11 rfl rfl ?_
      refine gf_787 (pc := 12) 0 dX5_meanOf_12 rfl rfl ?_
      refine v_bipush (pc := 15) (v := 38) dX5_meanOf_15 (by decide) ?_
      refine v_ialdN (pc := 17) 1 1 (38) dX5_meanOf_17 rfl rfl rfl (by decide) (by decide) ?_
      refine v_st (st' := [.int (nI rl), .int (nI d)]) (by rw [h_38]) ?_
      refine v_cmpN_ge (pc := 18) (a := d) (b := rl) 35 dX5_meanOf_18 (by decide) (by omega) (by omega) (fun c_18 => ?_) (fun c_18 => ?_)
      · skip
        refine v_iconst (pc := 35) (v := 0) dX5_meanOf_35 (by decide) ?_
        refine v_istore (pc := 36) (lv' := [(9, .int (0)), (7, .long (lN t10)), (5, .long (0)), (0, .ref m0), (1, .int (nI v)), (2, .int (0)), (3, .int (2)), (4, .int (wh))]) dX5_meanOf_36 (by decide) rfl ?_
        have loop_38 : ∀ (D_38 : Nat) (i : Nat) (up : Nat) (tt : Int32), 2 ^ rl - i < D_38 → (i ≤ 2 ^ rl) → (up = expM v rl (mm2 nt rl f) i) → V l E RX5 cX5_meanOf 13 (Option.some FieldType.long) "meanOf" ({ frames := 4, cells := 0, slots := 0, locals := 90 }) [(m0, .inr (5, [.ref ma, .int (nI nt), .int (nI pp), .int (th), .ref mp, .int (rn), .int (ro), .int (to), .int (wt), .int (hn), .int (ho), .ref mt, .int (nI tl), .int (fa), .int (bk), .int (ba), .int (spt), .int (hre), .int (tok), .int (val), .ref mc, .ref ml, .ref mn, .int (nI se), .ref mk, .ref mg, .ref mh, .ref mq, .int (tn)])), (ma, .inl (E.2.1 1, 172, .inl (f)))] 0 0 (Rt (some (.long (lowT (expM v rl (mm2 nt rl f) (2 ^ rl)) (10 ^ rl) wh))) [(m0, .inr (5, [.ref ma, .int (nI nt), .int (nI pp), .int (255), .ref mp, .int (rn), .int (ro), .int (to), .int (wt), .int (hn), .int (ho), .ref mt, .int (nI tl), .int (fa), .int (bk), .int (ba), .int (spt), .int (hre), .int (tok), .int (val), .ref mc, .ref ml, .ref mn, .int (nI se), .ref mk, .ref mg, .ref mh, .ref mq, .int (tn)])), (ma, .inl (E.2.1 1, 172, .inl (f)))]) 0 0 38 [(9, .int (nI i)), (5, .long (lN up)), (7, .long (lN t10)), (0, .ref m0), (1, .int (nI v)), (2, .int (0)), (3, .int (2)), (4, .int (wh))] [] [(m0, .inr (5, [.ref ma, .int (nI nt), .int (nI pp), .int (tt), .ref mp, .int (rn), .int (ro), .int (to), .int (wt), .int (hn), .int (ho), .ref mt, .int (nI tl), .int (fa), .int (bk), .int (ba), .int (spt), .int (hre), .int (tok), .int (val), .ref mc, .ref ml, .ref mn, .int (nI se), .ref mk, .ref mg, .ref mh, .ref mq, .int (tn)])), (ma, .inl (E.2.1 1, 172, .inl (f)))] := by
          intro D_38
          induction D_38 with
          | zero => intro i up tt h; exact absurd h (Nat.not_lt_zero _)
          | succ D_38 ih_38 =>
            intro i up tt hmu_38 h_38_0 h_38_1
            refine v_iload (pc := 38) 0 dX5_meanOf_38 rfl ?_
            refine v_iconst (pc := 40) (v := 1) dX5_meanOf_40 (by decide) ?_
            refine v_aload_n (pc := 41) 3 dX5_meanOf_41 rfl rfl ?_
            refine gf_787 (pc := 42) 0 dX5_meanOf_42 rfl rfl ?_
            refine v_bipush (pc := 45) (v := 38) dX5_meanOf_45 (by decide) ?_
            refine v_ialdN (pc := 47) 1 1 (38) dX5_meanOf_47 rfl rfl rfl (by decide) (by decide) ?_
            refine v_ishl (pc := 48) dX5_meanOf_48 ?_
            refine v_st (st' := [.int (nI (2 ^ rl)), .int (nI i)]) (by rw [h_38, pw31 rl (by omega)]) ?_
            refine v_cmpN_ge (pc := 49) (a := i) (b := 2 ^ rl) 166 dX5_meanOf_49 (by decide) (by omega) (by omega) (fun c_49 => ?_) (fun c_49 => ?_)
            · skip
              refine v_aload_n (pc := 166) 3 dX5_meanOf_166 rfl rfl ?_
              refine v_sipush (pc := 167) (v := 255) dX5_meanOf_167 (by decide) ?_
              refine pf_790 (pc := 170) (ws' := [(m0, .inr (5, [.ref ma, .int (nI nt), .int (nI pp), .int (255), .ref mp, .int (rn), .int (ro), .int (to), .int (wt), .int (hn), .int (ho), .ref mt, .int (nI tl), .int (fa), .int (bk), .int (ba), .int (spt), .int (hre), .int (tok), .int (val), .ref mc, .ref ml, .ref mn, .int (nI se), .ref mk, .ref mg, .ref mh, .ref mq, .int (tn)])), (ma, .inl (E.2.1 1, 172, .inl (f)))]) 0 dX5_meanOf_170 rfl rfl rfl (Nat.le_of_ble_eq_true rfl) rfl ?_
              refine v_lload (pc := 173) 1 dX5_meanOf_173 rfl ?_
              refine v_lload (pc := 175) 2 dX5_meanOf_175 rfl ?_
              refine v_iload (pc := 177) 7 dX5_meanOf_177 rfl ?_
              refine v_callS (pc := 179) (rest := []) [] lk_1137 (c_X5_lowest l E up t10 wh (by rw [h_9_1]; exact Nat.pow_pos (by decide)) (by have e := expM_le (rl := rl) h_v h_rl (g := mm2 nt rl f) (mm2_le h_nt) i; omega) (by have e : d = rl := (by omega); have e2 := ten_rl h_rl; rw [h_9_1, e]; omega)) dX5_meanOf_179 rfl rfl (Nat.le_of_ble_eq_true rfl) (by decide) (by decide) rfl (Rt.len rfl) (Rt.go ?_)
              refine v_w (ws' := [(m0, .inr (5, [.ref ma, .int (nI nt), .int (nI pp), .int (255), .ref mp, .int (rn), .int (ro), .int (to), .int (wt), .int (hn), .int (ho), .ref mt, .int (nI tl), .int (fa), .int (bk), .int (ba), .int (spt), .int (hre), .int (tok), .int (val), .ref mc, .ref ml, .ref mn, .int (nI se), .ref mk, .ref mg, .ref mh, .ref mq, .int (tn)])), (ma, .inl (E.2.1 1, 172, .inl (f)))]) rfl ?_
              refine v_st (st' := [.long (lowT up t10 wh)]) rfl ?_
              refine v_lret (pc := 182) dX5_meanOf_182 rfl ⟨rfl, rfl⟩ (Rt.l2 ?_ ?_)
              · skip
                obtain rfl : i = 2 ^ rl := by omega
                obtain rfl : d = rl := by omega
                rw [h_38_1, h_9_1]
              · skip
                rfl
            · skip
              refine v_aload_n (pc := 52) 3 dX5_meanOf_52 rfl rfl ?_
              refine v_iload (pc := 53) 0 dX5_meanOf_53 rfl ?_
              refine pf_790 (pc := 55) (ws' := [(m0, .inr (5, [.ref ma, .int (nI nt), .int (nI pp), .int (nI i), .ref mp, .int (rn), .int (ro), .int (to), .int (wt), .int (hn), .int (ho), .ref mt, .int (nI tl), .int (fa), .int (bk), .int (ba), .int (spt), .int (hre), .int (tok), .int (val), .ref mc, .ref ml, .ref mn, .int (nI se), .ref mk, .ref mg, .ref mh, .ref mq, .int (tn)])), (ma, .inl (E.2.1 1, 172, .inl (f)))]) 0 dX5_meanOf_55 rfl rfl rfl (Nat.le_of_ble_eq_true rfl) rfl ?_
              refine v_iload_n (pc := 58) 6 dX5_meanOf_58 rfl rfl ?_
              refine v_if_ne (pc := 59) 79 dX5_meanOf_59 (by decide) (fun _ => ?_) (fun c => absurd c (by decide))
              refine v_iload_n (pc := 79) 6 dX5_meanOf_79 rfl rfl ?_
              refine v_iconst (pc := 80) (v := 1) dX5_meanOf_80 (by decide) ?_
              refine v_icmp_ne (pc := 81) 99 dX5_meanOf_81 (by decide) (fun _ => ?_) (fun c => absurd c (by decide))
              refine v_aload_n (pc := 99) 3 dX5_meanOf_99 rfl rfl ?_
              refine v_callV (pc := 100) (rest := []) [0, 1] 0 lk_1069 (c_X5_agreeing l E m0 ma mp mt mc ml mn mk mg mh mq nt pp rl tl se (nI i) rn ro to wt hn ho fa bk ba spt hre tok val tn f (by first | assumption | omega) (by first | assumption | omega) (by first | assumption | omega)) dX5_meanOf_100 rfl rfl (Nat.le_of_ble_eq_true rfl) (by decide) rfl rfl rfl (by decide) rfl (Rt.len rfl) (Rt.go ?_)
              refine v_w (ws' := [(m0, .inr (5, [.ref ma, .int (nI nt), .int (nI pp), .int ((nI i)), .ref mp, .int (rn), .int (ro), .int (to), .int (wt), .int (hn), .int (ho), .ref mt, .int (nI tl), .int (fa), .int (bk), .int (ba), .int (spt), .int (hre), .int (tok), .int (val), .ref mc, .ref ml, .ref mn, .int (nI se), .ref mk, .ref mg, .ref mh, .ref mq, .int (tn)])), (ma, .inl (E.2.1 1, 172, .inl (f)))]) rfl ?_
              refine v_st (st' := [.int (nI (cntM (agM rl (nI i) f) (2 ^ nt)))]) rfl ?_
              refine v_i2l (pc := 103) dX5_meanOf_103 ?_
              refine v_st (st' := [.long (lN (mm2 nt rl f i))]) (by rw [nI_l (by have := cntM_le (agM rl (nI i) f) (2 ^ nt); omega)]; rfl) ?_
              refine v_lstore (pc := 104) (lv' := [(10, .long (lN (mm2 nt rl f i))), (9, .int (nI i)), (5, .long (lN up)), (7, .long (lN t10)), (0, .ref m0), (1, .int (nI v)), (2, .int (0)), (3, .int (2)), (4, .int (wh))]) dX5_meanOf_104 (by decide) rfl ?_
              refine v_iconst (pc := 106) (v := 0) dX5_meanOf_106 (by decide) ?_
              refine v_istore (pc := 107) (lv' := [(12, .int (0)), (10, .long (lN (mm2 nt rl f i))), (9, .int (nI i)), (5, .long (lN up)), (7, .long (lN t10)), (0, .ref m0), (1, .int (nI v)), (2, .int (0)), (3, .int (2)), (4, .int (wh))]) dX5_meanOf_107 (by decide) rfl ?_
              have loop_109 : ∀ (D_109 : Nat) (k : Nat) (wv : Nat), rl - k < D_109 → (k ≤ rl) → (wv = mm2 nt rl f i * prW v i k) → V l E RX5 cX5_meanOf 13 (Option.some FieldType.long) "meanOf" ({ frames := 4, cells := 0, slots := 0, locals := 90 }) [(m0, .inr (5, [.ref ma, .int (nI nt), .int (nI pp), .int (th), .ref mp, .int (rn), .int (ro), .int (to), .int (wt), .int (hn), .int (ho), .ref mt, .int (nI tl), .int (fa), .int (bk), .int (ba), .int (spt), .int (hre), .int (tok), .int (val), .ref mc, .ref ml, .ref mn, .int (nI se), .ref mk, .ref mg, .ref mh, .ref mq, .int (tn)])), (ma, .inl (E.2.1 1, 172, .inl (f)))] 0 0 (Rt (some (.long (lowT (expM v rl (mm2 nt rl f) (2 ^ rl)) (10 ^ rl) wh))) [(m0, .inr (5, [.ref ma, .int (nI nt), .int (nI pp), .int (255), .ref mp, .int (rn), .int (ro), .int (to), .int (wt), .int (hn), .int (ho), .ref mt, .int (nI tl), .int (fa), .int (bk), .int (ba), .int (spt), .int (hre), .int (tok), .int (val), .ref mc, .ref ml, .ref mn, .int (nI se), .ref mk, .ref mg, .ref mh, .ref mq, .int (tn)])), (ma, .inl (E.2.1 1, 172, .inl (f)))]) 0 0 109 [(12, .int (nI k)), (10, .long (lN wv)), (9, .int (nI i)), (5, .long (lN up)), (7, .long (lN t10)), (0, .ref m0), (1, .int (nI v)), (2, .int (0)), (3, .int (2)), (4, .int (wh))] [] [(m0, .inr (5, [.ref ma, .int (nI nt), .int (nI pp), .int ((nI i)), .ref mp, .int (rn), .int (ro), .int (to), .int (wt), .int (hn), .int (ho), .ref mt, .int (nI tl), .int (fa), .int (bk), .int (ba), .int (spt), .int (hre), .int (tok), .int (val), .ref mc, .ref ml, .ref mn, .int (nI se), .ref mk, .ref mg, .ref mh, .ref mq, .int (tn)])), (ma, .inl (E.2.1 1, 172, .inl (f)))] := by
                intro D_109
                induction D_109 with
                | zero => intro k wv h; exact absurd h (Nat.not_lt_zero _)
                | succ D_109 ih_109 =>
                  intro k wv hmu_109 h_109_0 h_109_1
                  refine v_iload (pc := 109) 0 dX5_meanOf_109 rfl ?_
                  refine v_aload_n (pc := 111) 5 dX5_meanOf_111 rfl rfl ?_
                  refine gf_787 (pc := 112) 0 dX5_meanOf_112 rfl rfl ?_
                  refine v_bipush (pc := 115) (v := 38) dX5_meanOf_115 (by decide) ?_
                  refine v_ialdN (pc := 117) 1 1 (38) dX5_meanOf_117 rfl rfl rfl (by decide) (by decide) ?_
                  refine v_st (st' := [.int (nI rl), .int (nI k)]) (by rw [h_38]) ?_
                  refine v_cmpN_ge (pc := 118) (a := k) (b := rl) 153 dX5_meanOf_118 (by decide) (by omega) (by omega) (fun c_118 => ?_) (fun c_118 => ?_)
                  · skip
                    refine v_lload (pc := 153) 3 dX5_meanOf_153 rfl ?_
                    refine v_lload (pc := 155) 1 dX5_meanOf_155 rfl ?_
                    refine v_ladd (pc := 157) dX5_meanOf_157 ?_
                    refine v_st (st' := [.long (lN (up + wv))]) (by rw [lN_add]) ?_
                    refine v_lstore (pc := 158) (lv' := [(5, .long (lN (up + wv))), (12, .int (nI k)), (10, .long (lN wv)), (9, .int (nI i)), (7, .long (lN t10)), (0, .ref m0), (1, .int (nI v)), (2, .int (0)), (3, .int (2)), (4, .int (wh))]) dX5_meanOf_158 (by decide) rfl ?_
                    refine v_iinc (pc := 160) (v := nI (i + 1)) (lv' := [(9, .int (nI (i + 1))), (5, .long (lN (up + wv))), (12, .int (nI k)), (10, .long (lN wv)), (7, .long (lN t10)), (0, .ref m0), (1, .int (nI v)), (2, .int (0)), (3, .int (2)), (4, .int (wh))]) 3 dX5_meanOf_160 rfl (nI_inc (i) 1) (by decide) rfl ?_
                    refine v_goto (pc := 163) 38 dX5_meanOf_163 (by decide) ?_
                    refine v_lv (lv' := [(9, .int (nI (i + 1))), (5, .long (lN (up + wv))), (7, .long (lN t10)), (0, .ref m0), (1, .int (nI v)), (2, .int (0)), (3, .int (2)), (4, .int (wh))]) [0, 1, 4, 5, 6, 7, 8, 9] rfl ?_
                    refine ih_38 (i + 1) (up + wv) (nI i) (by omega) ?_ ?_
                    · omega
                    · obtain rfl : k = rl := by omega
                      rw [h_109_1, h_38_1]; rfl
                  · skip
                    refine v_lload (pc := 121) 1 dX5_meanOf_121 rfl ?_
                    refine v_iload (pc := 123) 2 dX5_meanOf_123 rfl ?_
                    refine v_iload (pc := 125) 0 dX5_meanOf_125 rfl ?_
                    refine v_ishr (pc := 127) dX5_meanOf_127 ?_
                    refine v_iconst (pc := 128) (v := 1) dX5_meanOf_128 (by decide) ?_
                    refine v_iand (pc := 129) dX5_meanOf_129 ?_
                    refine v_iconst (pc := 130) (v := 1) dX5_meanOf_130 (by decide) ?_
                    suffices J_131 : V l E RX5 cX5_meanOf 13 (Option.some FieldType.long) "meanOf" ({ frames := 4, cells := 0, slots := 0, locals := 90 }) [(m0, .inr (5, [.ref ma, .int (nI nt), .int (nI pp), .int (th), .ref mp, .int (rn), .int (ro), .int (to), .int (wt), .int (hn), .int (ho), .ref mt, .int (nI tl), .int (fa), .int (bk), .int (ba), .int (spt), .int (hre), .int (tok), .int (val), .ref mc, .ref ml, .ref mn, .int (nI se), .ref mk, .ref mg, .ref mh, .ref mq, .int (tn)])), (ma, .inl (E.2.1 1, 172, .inl (f)))] 0 0 (Rt (some (.long (lowT (expM v rl (mm2 nt rl f) (2 ^ rl)) (10 ^ rl) wh))) [(m0, .inr (5, [.ref ma, .int (nI nt), .int (nI pp), .int (255), .ref mp, .int (rn), .int (ro), .int (to), .int (wt), .int (hn), .int (ho), .ref mt, .int (nI tl), .int (fa), .int (bk), .int (ba), .int (spt), .int (hre), .int (tok), .int (val), .ref mc, .ref ml, .ref mn, .int (nI se), .ref mk, .ref mg, .ref mh, .ref mq, .int (tn)])), (ma, .inl (E.2.1 1, 172, .inl (f)))]) 0 0 144 [(12, .int (nI k)), (10, .long (lN wv)), (9, .int (nI i)), (5, .long (lN up)), (7, .long (lN t10)), (0, .ref m0), (1, .int (nI v)), (2, .int (0)), (3, .int (2)), (4, .int (wh))] [.long (if ¬ (((nI i) >>> ((nI k) &&& 31)) &&& (1)) = (1) then Int32.toInt64 (nI v) else Int32.toInt64 ((10) - (nI v))), .long (lN wv)] [(m0, .inr (5, [.ref ma, .int (nI nt), .int (nI pp), .int ((nI i)), .ref mp, .int (rn), .int (ro), .int (to), .int (wt), .int (hn), .int (ho), .ref mt, .int (nI tl), .int (fa), .int (bk), .int (ba), .int (spt), .int (hre), .int (tok), .int (val), .ref mc, .ref ml, .ref mn, .int (nI se), .ref mk, .ref mg, .ref mh, .ref mq, .int (tn)])), (ma, .inl (E.2.1 1, 172, .inl (f)))] by
                      refine v_icmp_ne (pc := 131) 142 dX5_meanOf_131 (by decide) (fun c_131 => ?_) (fun c_131 => ?_)
                      · skip
                        refine v_iload_n (pc := 142) 6 dX5_meanOf_142 rfl rfl ?_
                        refine v_i2l (pc := 143) dX5_meanOf_143 ?_
                        refine v_st ?_ J_131
                        rw [if_pos (show ¬ (((nI i) >>> ((nI k) &&& 31)) &&& (1)) = (1) from c_131)]
                      · skip
                        refine v_bipush (pc := 134) (v := 10) dX5_meanOf_134 (by decide) ?_
                        refine v_iload_n (pc := 136) 6 dX5_meanOf_136 rfl rfl ?_
                        refine v_isub (pc := 137) dX5_meanOf_137 ?_
                        refine v_i2l (pc := 138) dX5_meanOf_138 ?_
                        refine v_goto (pc := 139) 144 dX5_meanOf_139 (by decide) ?_
                        refine v_st ?_ J_131
                        rw [if_neg (show ¬ (¬ (((nI i) >>> ((nI k) &&& 31)) &&& (1)) = (1)) from (by first | exact c_131 | omega | exact fun q => q c_131))]
                    refine v_st (st' := [.long (lN (if bt1 (nI i) (nI k) = 1 then 10 - v else v)), .long (lN wv)]) (by exact congrArg (fun z => Value.long z :: _) (w10 h_v)) ?_
                    refine v_lmul (pc := 144) dX5_meanOf_144 ?_
                    refine v_st (st' := [.long (lN (wv * if bt1 (nI i) (nI k) = 1 then 10 - v else v))]) (by rw [lN_mul]) ?_
                    refine v_lstore (pc := 145) (lv' := [(10, .long (lN (wv * if bt1 (nI i) (nI k) = 1 then 10 - v else v))), (12, .int (nI k)), (9, .int (nI i)), (5, .long (lN up)), (7, .long (lN t10)), (0, .ref m0), (1, .int (nI v)), (2, .int (0)), (3, .int (2)), (4, .int (wh))]) dX5_meanOf_145 (by decide) rfl ?_
                    refine v_iinc (pc := 147) (v := nI (k + 1)) (lv' := [(12, .int (nI (k + 1))), (10, .long (lN (wv * if bt1 (nI i) (nI k) = 1 then 10 - v else v))), (9, .int (nI i)), (5, .long (lN up)), (7, .long (lN t10)), (0, .ref m0), (1, .int (nI v)), (2, .int (0)), (3, .int (2)), (4, .int (wh))]) 1 dX5_meanOf_147 rfl (nI_inc (k) 1) (by decide) rfl ?_
                    refine v_goto (pc := 150) 109 dX5_meanOf_150 (by decide) ?_
                    refine v_lv (lv' := [(12, .int (nI (k + 1))), (10, .long (lN (wv * if bt1 (nI i) (nI k) = 1 then 10 - v else v))), (9, .int (nI i)), (5, .long (lN up)), (7, .long (lN t10)), (0, .ref m0), (1, .int (nI v)), (2, .int (0)), (3, .int (2)), (4, .int (wh))]) [0, 1, 2, 3, 4, 5, 6, 7, 8, 9] rfl ?_
                    refine ih_109 (k + 1) (wv * if bt1 (nI i) (nI k) = 1 then 10 - v else v) (by omega) ?_ ?_
                    · omega
                    · simp only [prW]; rw [h_109_1, Nat.mul_assoc]
              refine v_lv (lv' := [(12, .int (nI 0)), (10, .long (lN (mm2 nt rl f i))), (9, .int (nI i)), (5, .long (lN up)), (7, .long (lN t10)), (0, .ref m0), (1, .int (nI v)), (2, .int (0)), (3, .int (2)), (4, .int (wh))]) [0, 1, 2, 3, 4, 5, 6, 7, 8, 9] rfl ?_
              refine loop_109 ((rl - 0) + 1) 0 (mm2 nt rl f i) (Nat.lt_succ_self _) ?_ ?_
              · omega
              · simp [prW]
        refine v_lv (lv' := [(9, .int (nI 0)), (5, .long (lN 0)), (7, .long (lN t10)), (0, .ref m0), (1, .int (nI v)), (2, .int (0)), (3, .int (2)), (4, .int (wh))]) [0, 2, 1, 3, 4, 5, 6, 7] rfl ?_
        refine loop_38 ((2 ^ rl - 0) + 1) 0 0 th (Nat.lt_succ_self _) ?_ ?_
        · omega
        · rfl
      · skip
        refine v_lload (pc := 21) 1 dX5_meanOf_21 rfl ?_
        refine v_ldc2 (pc := 23) dX5_meanOf_23 tb_1132 ?_
        refine v_lmul (pc := 26) dX5_meanOf_26 ?_
        refine v_st (st' := [.long (lN (t10 * 10))]) (by exact congrArg (fun z => Value.long z :: _) (lN_mul t10 10)) ?_
        refine v_lstore (pc := 27) (lv' := [(7, .long (lN (t10 * 10))), (9, .int (nI d)), (5, .long (0)), (0, .ref m0), (1, .int (nI v)), (2, .int (0)), (3, .int (2)), (4, .int (wh))]) dX5_meanOf_27 (by decide) rfl ?_
        refine v_iinc (pc := 29) (v := nI (d + 1)) (lv' := [(9, .int (nI (d + 1))), (7, .long (lN (t10 * 10))), (5, .long (0)), (0, .ref m0), (1, .int (nI v)), (2, .int (0)), (3, .int (2)), (4, .int (wh))]) 1 dX5_meanOf_29 rfl (nI_inc (d) 1) (by decide) rfl ?_
        refine v_goto (pc := 32) 9 dX5_meanOf_32 (by decide) ?_
        refine v_lv (lv' := [(9, .int (nI (d + 1))), (7, .long (lN (t10 * 10))), (5, .long (0)), (0, .ref m0), (1, .int (nI v)), (2, .int (0)), (3, .int (2)), (4, .int (wh))]) [0, 1, 2, 3, 4, 5, 6, 7] rfl ?_
        refine ih_9 (d + 1) (t10 * 10) (by omega) ?_ ?_
        · omega
        · rw [h_9_1]; rfl
  refine v_lv (lv' := [(9, .int (nI 0)), (7, .long (lN 1)), (5, .long (0)), (0, .ref m0), (1, .int (nI v)), (2, .int (0)), (3, .int (2)), (4, .int (wh))]) [0, 1, 2, 3, 4, 5, 6, 7] rfl ?_
  refine loop_9 ((rl - 0) + 1) 0 1 (Nat.lt_succ_self _) ?_ ?_
  · omega
  · rfl
