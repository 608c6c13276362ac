/-! tokens -/
def runP (q : Int32 → Bool) (b : Nat → Int32) (n : Nat) : Nat → Nat → Nat
  | 0, p => p
  | k + 1, p => if p < n ∧ q (b p) = true then runP q b n k (p + 1) else p
def run (q : Int32 → Bool) (b : Nat → Int32) (n p : Nat) : Nat := runP q b n (n - p) p
theorem run_step {q : Int32 → Bool} {b : Nat → Int32} {n p : Nat} (h : p < n) (hq : q (b p) = true) : run q b n p = run q b n (p + 1) := by
  unfold run
  rw [show n - p = (n - (p + 1)) + 1 by omega, runP, if_pos ⟨h, hq⟩]
theorem run_stop {q : Int32 → Bool} {b : Nat → Int32} {n p : Nat} (h : ¬ (p < n ∧ q (b p) = true)) : run q b n p = p := by
  unfold run
  cases n - p with
  | zero => rfl
  | succ k => rw [runP, if_neg h]
theorem runP_b {q : Int32 → Bool} {b : Nat → Int32} {n : Nat} : ∀ k p, p ≤ runP q b n k p ∧ runP q b n k p ≤ p + k := by
  intro k
  induction k with
  | zero => intro p; exact ⟨Nat.le_refl _, Nat.le_refl _⟩
  | succ k ih =>
    intro p
    simp only [runP]
    split
    · have := ih (p + 1); omega
    · omega
theorem run_b {q : Int32 → Bool} {b : Nat → Int32} {n p : Nat} (h : p ≤ n) : p ≤ run q b n p ∧ run q b n p ≤ n := by
  have := runP_b (q := q) (b := b) (n := n) (n - p) p
  unfold run
  omega
def qB (x : Int32) : Bool := decide (x = 32)
def qL (x : Int32) : Bool := decide (¬ x < 97 ∧ ¬ 122 < x)
def qD (x : Int32) : Bool := decide (¬ x < 48 ∧ ¬ 57 < x)
def dgV (b : Nat → Int32) (s : Nat) : Nat → Int32
  | 0 => 0
  | k + 1 => dgV b s k * 10 + b (s + k) - 48
def tkS (b : Nat → Int32) (n p : Nat) : Nat := run qB b n p
def tkK (b : Nat → Int32) (n p : Nat) : Int32 := if n ≤ tkS b n p then 0 else if qL (b (tkS b n p)) = true then 1 else if qD (b (tkS b n p)) = true then 2 else 3
def tkN (b : Nat → Int32) (n p : Nat) : Nat := if n ≤ tkS b n p then tkS b n p else if qL (b (tkS b n p)) = true then run qL b n (tkS b n p) else if qD (b (tkS b n p)) = true then run qD b n (tkS b n p) else tkS b n p + 1
def tkO (b : Nat → Int32) (n p : Nat) : Bool := if n ≤ tkS b n p then true else if qL (b (tkS b n p)) = true then true else if qD (b (tkS b n p)) = true then decide (run qD b n (tkS b n p) - tkS b n p ≤ 2) else decide (b (tkS b n p) = 59)
def tkV (b : Nat → Int32) (n p : Nat) (v : Int32) : Int32 := if n ≤ tkS b n p then v else if qL (b (tkS b n p)) = true then v else if qD (b (tkS b n p)) = true then dgV b (tkS b n p) (run qD b n (tkS b n p) - tkS b n p) else v
theorem tkS_b {b : Nat → Int32} {n p : Nat} (h : p ≤ n) : p ≤ tkS b n p ∧ tkS b n p ≤ n := run_b h
theorem tkN_b {b : Nat → Int32} {n p : Nat} (h : p ≤ n) : tkS b n p ≤ tkN b n p ∧ tkN b n p ≤ n := by
  have h1 := tkS_b (b := b) h
  have h2 := run_b (q := qL) (b := b) h1.2
  have h3 := run_b (q := qD) (b := b) h1.2
  unfold tkN
  split
  · omega
  · split
    · omega
    · split
      · omega
      · omega
def numC (tk tv lo hi : Int32) : Int32 := if tk = 2 then (if tv < lo then 3 else if tv ≤ hi then 0 else 3) else 2
def ntC (tk tv al : Int32) : Int32 := if numC tk tv 0 5 = 0 then (if bt1 al tv = 0 then 0 else 4) else numC tk tv 0 5
def nmB (tk : Int32) (b : Nat → Int32) (sa nx i : Nat) : Bool := decide (tk = 1 ∧ nx - sa = lenS.getD i 0) && eqB b sa i (lenS.getD i 0)
theorem c_X3_append (l : Launch) (E : VE) (t0 : Nat) (b0 : Nat) (tb : Nat) (tl : Nat) (nx : Nat) (sa : Nat) (tf : Int32) (tp : Int32) (tk : Int32) (tv : Int32) (th : Int32) (tN : Int32) (tO : Int32) (tpd : Int32) (by_ : Nat → Int32) (c : Int32) (h_tl : tl < 160) : Ct l E yX3_append cX3_append 2 (Option.none : Option Jvm.ClassFile.FieldType) 0 0 0 0 [.ref t0, .int (c)] [(t0, .inr (3, [.ref b0, .int (nI tl), .int (tf), .int (tp), .ref tb, .int (nI nx), .int (tk), .int (nI sa), .int (tv), .int (th), .int (tN), .int (tO), .int (tpd)])), (tb, .inl (E.2.1 0, 160, .inl (by_)))] (Rt none [(t0, .inr (3, [.ref b0, .int (nI (tl + 1)), .int (tf), .int (tp), .ref tb, .int (nI nx), .int (tk), .int (nI sa), .int (tv), .int (th), .int (tN), .int (tO), .int (tpd)])), (tb, .inl (E.2.1 0, 160, .inl (upd by_ tl (vp_nar .byte (c.toInt8.toInt32)))))]) := by
  refine Ct.of (own := RX3) (nm := "append") (lv := [(0, .ref t0), (1, .int (c))]) (by decide) rfl rfl (Nat.le_of_ble_eq_true rfl) rfl ?_
  refine v_aload_n (pc := 0) 0 dX3_append_0 rfl rfl ?_
  refine gf_178 (pc := 1) 0 dX3_append_1 rfl rfl ?_
  refine v_sipush (pc := 4) (v := 160) dX3_append_4 (by decide) ?_
  refine v_cmpN_ge (pc := 7) (a := tl) (b := 160) 31 dX3_append_7 (by decide) (by omega) (by omega) (fun c_7 => ?_) (fun c_7 => ?_)
  · skip
    refine v_vret (pc := 31) dX3_append_31 rfl ⟨rfl, rfl⟩ (Rt.w ?_)
    first | (exfalso; omega) | rfl
  · skip
    refine v_aload_n (pc := 10) 0 dX3_append_10 rfl rfl ?_
    refine gf_184 (pc := 11) 0 dX3_append_11 rfl rfl ?_
    refine v_aload_n (pc := 14) 0 dX3_append_14 rfl rfl ?_
    refine gf_178 (pc := 15) 0 dX3_append_15 rfl rfl ?_
    refine v_iload_n (pc := 18) 1 dX3_append_18 rfl rfl ?_
    refine v_i2b (pc := 19) dX3_append_19 ?_
    refine v_bastN (pc := 20) (ws' := [(t0, .inr (3, [.ref b0, .int (nI tl), .int (tf), .int (tp), .ref tb, .int (nI nx), .int (tk), .int (nI sa), .int (tv), .int (th), .int (tN), .int (tO), .int (tpd)])), (tb, .inl (E.2.1 0, 160, .inl (upd (by_) (tl) (vp_nar .byte ((Int32.toInt8 (c)).toInt32)))))]) 1 0 (tl) dX3_append_20 rfl rfl rfl (by omega) (by decide) rfl ?_
    refine v_aload_n (pc := 21) 0 dX3_append_21 rfl rfl ?_
    refine v_dup (pc := 22) dX3_append_22 rfl ?_
    refine gf_178 (pc := 23) 0 dX3_append_23 rfl rfl ?_
    refine v_iconst (pc := 26) (v := 1) dX3_append_26 (by decide) ?_
    refine v_iadd (pc := 27) dX3_append_27 ?_
    refine v_st (st' := [.int (nI (tl + 1)), .ref t0]) (by rw [nI_1]) ?_
    refine pf_178 (pc := 28) (ws' := [(t0, .inr (3, [.ref b0, .int (nI (tl + 1)), .int (tf), .int (tp), .ref tb, .int (nI nx), .int (tk), .int (nI sa), .int (tv), .int (th), .int (tN), .int (tO), .int (tpd)])), (tb, .inl (E.2.1 0, 160, .inl (upd (by_) (tl) (vp_nar .byte ((Int32.toInt8 (c)).toInt32)))))]) 0 dX3_append_28 rfl rfl rfl (Nat.le_of_ble_eq_true rfl) rfl ?_
    refine v_vret (pc := 31) dX3_append_31 rfl ⟨rfl, rfl⟩ (Rt.w ?_)
    first | (exfalso; omega) | rfl
theorem c_X3_fail (l : Launch) (E : VE) (t0 : Nat) (b0 : Nat) (tb : Nat) (tl : Nat) (nx : Nat) (sa : Nat) (tf : Int32) (tp : Int32) (tk : Int32) (tv : Int32) (th : Int32) (tN : Int32) (tO : Int32) (tpd : Int32) (c : Int32) (pl : Int32) : Ct l E yX3_fail cX3_fail 3 (Option.some FieldType.boolean) 0 0 0 0 [.ref t0, .int (c), .int (pl)] [(t0, .inr (3, [.ref b0, .int (nI tl), .int (tf), .int (tp), .ref tb, .int (nI nx), .int (tk), .int (nI sa), .int (tv), .int (th), .int (tN), .int (tO), .int (tpd)]))] (Rt (some (.int (0))) [(t0, .inr (3, [.ref b0, .int (nI tl), .int (c), .int (pl), .ref tb, .int (nI nx), .int (tk), .int (nI sa), .int (tv), .int (th), .int (tN), .int (tO), .int (tpd)]))]) := by
  refine Ct.of (own := RX3) (nm := "fail") (lv := [(0, .ref t0), (1, .int (c)), (2, .int (pl))]) (by decide) rfl rfl (Nat.le_of_ble_eq_true rfl) rfl ?_
  refine v_aload_n (pc := 0) 0 dX3_fail_0 rfl rfl ?_
  refine v_iload_n (pc := 1) 1 dX3_fail_1 rfl rfl ?_
  refine pf_180 (pc := 2) (ws' := [(t0, .inr (3, [.ref b0, .int (nI tl), .int (c), .int (tp), .ref tb, .int (nI nx), .int (tk), .int (nI sa), .int (tv), .int (th), .int (tN), .int (tO), .int (tpd)]))]) 0 dX3_fail_2 rfl rfl rfl (Nat.le_of_ble_eq_true rfl) rfl ?_
  refine v_aload_n (pc := 5) 0 dX3_fail_5 rfl rfl ?_
  refine v_iload_n (pc := 6) 2 dX3_fail_6 rfl rfl ?_
  refine pf_182 (pc := 7) (ws' := [(t0, .inr (3, [.ref b0, .int (nI tl), .int (c), .int (pl), .ref tb, .int (nI nx), .int (tk), .int (nI sa), .int (tv), .int (th), .int (tN), .int (tO), .int (tpd)]))]) 0 dX3_fail_7 rfl rfl rfl (Nat.le_of_ble_eq_true rfl) rfl ?_
  refine v_iconst (pc := 10) (v := 0) dX3_fail_10 (by decide) ?_
  refine v_zret (pc := 11) dX3_fail_11 rfl rfl ⟨rfl, rfl⟩ (Rt.i2 ?_ ?_)
  · skip
    rfl
  · skip
    rfl
theorem c_X3_isNumber (l : Launch) (E : VE) (t0 : Nat) (b0 : Nat) (tb : Nat) (tl : Nat) (nx : Nat) (sa : Nat) (tf : Int32) (tp : Int32) (tk : Int32) (tv : Int32) (th : Int32) (tN : Int32) (tO : Int32) (tpd : Int32) (lo : Int32) (hi : Int32) : Ct l E yX3_isNumber cX3_isNumber 3 (Option.some FieldType.boolean) 1 22 0 0 [.ref t0, .int (lo), .int (hi)] [(t0, .inr (3, [.ref b0, .int (nI tl), .int (tf), .int (tp), .ref tb, .int (nI nx), .int (tk), .int (nI sa), .int (tv), .int (th), .int (tN), .int (tO), .int (tpd)]))] (Rt (some (.int (if numC tk tv lo hi = 0 then 1 else 0))) [(t0, .inr (3, [.ref b0, .int (nI tl), .int (if numC tk tv lo hi = 0 then tf else numC tk tv lo hi), .int (if numC tk tv lo hi = 0 then tp else nI sa), .ref tb, .int (nI nx), .int (tk), .int (nI sa), .int (tv), .int (th), .int (tN), .int (tO), .int (tpd)]))]) := by
  refine Ct.of (own := RX3) (nm := "isNumber") (lv := [(0, .ref t0), (1, .int (lo)), (2, .int (hi))]) (by decide) rfl rfl (Nat.le_of_ble_eq_true rfl) rfl ?_
  refine v_aload_n (pc := 0) 0 dX3_isNumber_0 rfl rfl ?_
  refine gf_186 (pc := 1) 0 dX3_isNumber_1 rfl rfl ?_
  refine v_iconst (pc := 4) (v := 2) dX3_isNumber_4 (by decide) ?_
  refine v_icmp_eq (pc := 5) 18 dX3_isNumber_5 (by decide) (fun c_5 => ?_) (fun c_5 => ?_)
  · skip
    refine v_aload_n (pc := 18) 0 dX3_isNumber_18 rfl rfl ?_
    refine gf_188 (pc := 19) 0 dX3_isNumber_19 rfl rfl ?_
    refine v_iload_n (pc := 22) 1 dX3_isNumber_22 rfl rfl ?_
    refine v_icmp_lt (pc := 23) 34 dX3_isNumber_23 (by decide) (fun c_23 => ?_) (fun c_23 => ?_)
    · skip
      refine v_aload_n (pc := 34) 0 dX3_isNumber_34 rfl rfl ?_
      refine v_iconst (pc := 35) (v := 3) dX3_isNumber_35 (by decide) ?_
      refine v_aload_n (pc := 36) 0 dX3_isNumber_36 rfl rfl ?_
      refine gf_187 (pc := 37) 0 dX3_isNumber_37 rfl rfl ?_
      refine v_callV (pc := 40) (rest := []) [0] 0 lk_311 (c_X3_fail l E t0 b0 tb tl nx sa tf tp tk tv th tN tO tpd 3 (nI sa)) dX3_isNumber_40 rfl rfl (Nat.le_of_ble_eq_true rfl) (by decide) rfl rfl rfl (by decide) rfl (Rt.len rfl) (Rt.go ?_)
      refine v_w (ws' := [(t0, .inr (3, [.ref b0, .int (nI tl), .int (3), .int ((nI sa)), .ref tb, .int (nI nx), .int (tk), .int (nI sa), .int (tv), .int (th), .int (tN), .int (tO), .int (tpd)]))]) rfl ?_
      refine v_st (st' := [.int (0)]) rfl ?_
      refine v_if_eq (pc := 43) 50 dX3_isNumber_43 (by decide) (fun _ => ?_) (fun c => absurd c (by decide))
      refine v_iconst (pc := 50) (v := 0) dX3_isNumber_50 (by decide) ?_
      refine v_zret (pc := 51) dX3_isNumber_51 rfl rfl ⟨rfl, rfl⟩ (Rt.i2 ?_ ?_)
      · skip
        have hc : numC tk tv lo hi = 3 := by unfold numC; rw [if_pos c_5, if_pos c_23]
        rw [hc]; rfl
      · skip
        have hc : numC tk tv lo hi = 3 := by unfold numC; rw [if_pos c_5, if_pos c_23]
        rw [hc]; rfl
    · skip
      refine v_aload_n (pc := 26) 0 dX3_isNumber_26 rfl rfl ?_
      refine gf_188 (pc := 27) 0 dX3_isNumber_27 rfl rfl ?_
      refine v_iload_n (pc := 30) 2 dX3_isNumber_30 rfl rfl ?_
      refine v_icmp_le (pc := 31) 46 dX3_isNumber_31 (by decide) (fun c_31 => ?_) (fun c_31 => ?_)
      · skip
        refine v_iconst (pc := 46) (v := 1) dX3_isNumber_46 (by decide) ?_
        refine v_goto (pc := 47) 51 dX3_isNumber_47 (by decide) ?_
        refine v_zret (pc := 51) dX3_isNumber_51 rfl rfl ⟨rfl, rfl⟩ (Rt.i2 ?_ ?_)
        · skip
          have hc : numC tk tv lo hi = 0 := by unfold numC; rw [if_pos c_5, if_neg c_23, if_pos c_31]
          rw [hc]; rfl
        · skip
          have hc : numC tk tv lo hi = 0 := by unfold numC; rw [if_pos c_5, if_neg c_23, if_pos c_31]
          rw [hc]; rfl
      · skip
        refine v_aload_n (pc := 34) 0 dX3_isNumber_34 rfl rfl ?_
        refine v_iconst (pc := 35) (v := 3) dX3_isNumber_35 (by decide) ?_
        refine v_aload_n (pc := 36) 0 dX3_isNumber_36 rfl rfl ?_
        refine gf_187 (pc := 37) 0 dX3_isNumber_37 rfl rfl ?_
        refine v_callV (pc := 40) (rest := []) [0] 0 lk_311 (c_X3_fail l E t0 b0 tb tl nx sa tf tp tk tv th tN tO tpd 3 (nI sa)) dX3_isNumber_40 rfl rfl (Nat.le_of_ble_eq_true rfl) (by decide) rfl rfl rfl (by decide) rfl (Rt.len rfl) (Rt.go ?_)
        refine v_w (ws' := [(t0, .inr (3, [.ref b0, .int (nI tl), .int (3), .int ((nI sa)), .ref tb, .int (nI nx), .int (tk), .int (nI sa), .int (tv), .int (th), .int (tN), .int (tO), .int (tpd)]))]) rfl ?_
        refine v_st (st' := [.int (0)]) rfl ?_
        refine v_if_eq (pc := 43) 50 dX3_isNumber_43 (by decide) (fun _ => ?_) (fun c => absurd c (by decide))
        refine v_iconst (pc := 50) (v := 0) dX3_isNumber_50 (by decide) ?_
        refine v_zret (pc := 51) dX3_isNumber_51 rfl rfl ⟨rfl, rfl⟩ (Rt.i2 ?_ ?_)
        · skip
          have hc : numC tk tv lo hi = 3 := by unfold numC; rw [if_pos c_5, if_neg c_23, if_neg c_31]
          rw [hc]; rfl
        · skip
          have hc : numC tk tv lo hi = 3 := by unfold numC; rw [if_pos c_5, if_neg c_23, if_neg c_31]
          rw [hc]; rfl
  · skip
    refine v_aload_n (pc := 8) 0 dX3_isNumber_8 rfl rfl ?_
    refine v_iconst (pc := 9) (v := 2) dX3_isNumber_9 (by decide) ?_
    refine v_aload_n (pc := 10) 0 dX3_isNumber_10 rfl rfl ?_
    refine gf_187 (pc := 11) 0 dX3_isNumber_11 rfl rfl ?_
    refine v_callV (pc := 14) (rest := []) [0] 0 lk_311 (c_X3_fail l E t0 b0 tb tl nx sa tf tp tk tv th tN tO tpd 2 (nI sa)) dX3_isNumber_14 rfl rfl (Nat.le_of_ble_eq_true rfl) (by decide) rfl rfl rfl (by decide) rfl (Rt.len rfl) (Rt.go ?_)
    refine v_w (ws' := [(t0, .inr (3, [.ref b0, .int (nI tl), .int (2), .int ((nI sa)), .ref tb, .int (nI nx), .int (tk), .int (nI sa), .int (tv), .int (th), .int (tN), .int (tO), .int (tpd)]))]) rfl ?_
    refine v_st (st' := [.int (0)]) rfl ?_
    refine v_zret (pc := 17) dX3_isNumber_17 rfl rfl ⟨rfl, rfl⟩ (Rt.i2 ?_ ?_)
    · skip
      have hc : numC tk tv lo hi = 2 := by unfold numC; rw [if_neg c_5]
      rw [hc]; rfl
    · skip
      have hc : numC tk tv lo hi = 2 := by unfold numC; rw [if_neg c_5]
      rw [hc]; rfl
theorem c_X3_isOne (l : Launch) (E : VE) (t0 : Nat) (b0 : Nat) (tb : Nat) (tl : Nat) (nx : Nat) (sa : Nat) (tf : Int32) (tp : Int32) (tk : Int32) (tv : Int32) (th : Int32) (tN : Int32) (tO : Int32) (tpd : Int32) : Ct l E yX3_isOne cX3_isOne 1 (Option.some FieldType.boolean) 2 44 0 0 [.ref t0] [(t0, .inr (3, [.ref b0, .int (nI tl), .int (tf), .int (tp), .ref tb, .int (nI nx), .int (tk), .int (nI sa), .int (tv), .int (th), .int (tN), .int (tO), .int (tpd)]))] (Rt (some (.int (if numC tk tv 0 3 = 0 then 1 else 0))) [(t0, .inr (3, [.ref b0, .int (nI tl), .int (if numC tk tv 0 3 = 0 then tf else numC tk tv 0 3), .int (if numC tk tv 0 3 = 0 then tp else nI sa), .ref tb, .int (nI nx), .int (tk), .int (nI sa), .int (tv), .int (th), .int (tN), .int (if numC tk tv 0 3 = 0 then tO ||| ((1 : Int32) <<< (tv &&& 31)) else tO), .int (tpd)]))]) := by
  refine Ct.of (own := RX3) (nm := "isOne") (lv := [(0, .ref t0)]) (by decide) rfl rfl (Nat.le_of_ble_eq_true rfl) rfl ?_
  refine v_aload_n (pc := 0) 0 dX3_isOne_0 rfl rfl ?_
  refine v_iconst (pc := 1) (v := 0) dX3_isOne_1 (by decide) ?_
  refine v_iconst (pc := 2) (v := 3) dX3_isOne_2 (by decide) ?_
  refine v_callV (pc := 3) (rest := []) [0] 0 lk_376 (c_X3_isNumber l E t0 b0 tb tl nx sa tf tp tk tv th tN tO tpd 0 3) dX3_isOne_3 rfl rfl (Nat.le_of_ble_eq_true rfl) (by decide) rfl rfl rfl (by decide) rfl (Rt.len rfl) (Rt.go ?_)
  refine v_w (ws' := [(t0, .inr (3, [.ref b0, .int (nI tl), .int (if numC tk tv 0 3 = 0 then tf else numC tk tv 0 3), .int (if numC tk tv 0 3 = 0 then tp else nI sa), .ref tb, .int (nI nx), .int (tk), .int (nI sa), .int (tv), .int (th), .int (tN), .int (tO), .int (tpd)]))]) rfl ?_
  refine v_st (st' := [.int (if numC tk tv 0 3 = 0 then 1 else 0)]) rfl ?_
  refine v_ifB_ne (pc := 6) 11 dX3_isOne_6 (by decide) (fun c_6 => ?_) (fun c_6 => ?_)
  · skip
    refine v_aload_n (pc := 11) 0 dX3_isOne_11 rfl rfl ?_
    refine v_dup (pc := 12) dX3_isOne_12 rfl ?_
    refine gf_191 (pc := 13) 0 dX3_isOne_13 rfl rfl ?_
    refine v_iconst (pc := 16) (v := 1) dX3_isOne_16 (by decide) ?_
    refine v_aload_n (pc := 17) 0 dX3_isOne_17 rfl rfl ?_
    refine gf_188 (pc := 18) 0 dX3_isOne_18 rfl rfl ?_
    refine v_ishl (pc := 21) dX3_isOne_21 ?_
    refine v_ior (pc := 22) dX3_isOne_22 ?_
    refine pf_191 (pc := 23) (ws' := [(t0, .inr (3, [.ref b0, .int (nI tl), .int (if numC tk tv 0 3 = 0 then tf else numC tk tv 0 3), .int (if numC tk tv 0 3 = 0 then tp else nI sa), .ref tb, .int (nI nx), .int (tk), .int (nI sa), .int (tv), .int (th), .int (tN), .int ((tO) ||| ((1 : Int32) <<< ((tv) &&& 31))), .int (tpd)]))]) 0 dX3_isOne_23 rfl rfl rfl (Nat.le_of_ble_eq_true rfl) rfl ?_
    refine v_iconst (pc := 26) (v := 1) dX3_isOne_26 (by decide) ?_
    refine v_zret (pc := 27) dX3_isOne_27 rfl rfl ⟨rfl, rfl⟩ (Rt.i2 ?_ ?_)
    · skip
      rw [if_pos c_6]
    · skip
      simp only [if_pos c_6]
  · skip
    refine v_iconst (pc := 9) (v := 0) dX3_isOne_9 (by decide) ?_
    refine v_zret (pc := 10) dX3_isOne_10 rfl rfl ⟨rfl, rfl⟩ (Rt.i2 ?_ ?_)
    · skip
      rw [if_neg c_6]
    · skip
      simp only [if_neg c_6]
theorem c_X3_isNoteNotIn (l : Launch) (E : VE) (t0 : Nat) (b0 : Nat) (tb : Nat) (tl : Nat) (nx : Nat) (sa : Nat) (tf : Int32) (tp : Int32) (tk : Int32) (tv : Int32) (th : Int32) (tN : Int32) (tO : Int32) (tpd : Int32) (al : Int32) : Ct l E yX3_isNoteNotIn cX3_isNoteNotIn 2 (Option.some FieldType.boolean) 2 44 0 0 [.ref t0, .int (al)] [(t0, .inr (3, [.ref b0, .int (nI tl), .int (tf), .int (tp), .ref tb, .int (nI nx), .int (tk), .int (nI sa), .int (tv), .int (th), .int (tN), .int (tO), .int (tpd)]))] (Rt (some (.int (if ntC tk tv al = 0 then 1 else 0))) [(t0, .inr (3, [.ref b0, .int (nI tl), .int (if ntC tk tv al = 0 then tf else ntC tk tv al), .int (if ntC tk tv al = 0 then tp else nI sa), .ref tb, .int (nI nx), .int (tk), .int (nI sa), .int (tv), .int (th), .int (if numC tk tv 0 5 = 0 then tN ||| ((1 : Int32) <<< (tv &&& 31)) else tN), .int (tO), .int (tpd)]))]) := by
  refine Ct.of (own := RX3) (nm := "isNoteNotIn") (lv := [(0, .ref t0), (1, .int (al))]) (by decide) rfl rfl (Nat.le_of_ble_eq_true rfl) rfl ?_
  refine v_aload_n (pc := 0) 0 dX3_isNoteNotIn_0 rfl rfl ?_
  refine v_iconst (pc := 1) (v := 0) dX3_isNoteNotIn_1 (by decide) ?_
  refine v_iconst (pc := 2) (v := 5) dX3_isNoteNotIn_2 (by decide) ?_
  refine v_callV (pc := 3) (rest := []) [0] 0 lk_376 (c_X3_isNumber l E t0 b0 tb tl nx sa tf tp tk tv th tN tO tpd 0 5) dX3_isNoteNotIn_3 rfl rfl (Nat.le_of_ble_eq_true rfl) (by decide) rfl rfl rfl (by decide) rfl (Rt.len rfl) (Rt.go ?_)
  refine v_w (ws' := [(t0, .inr (3, [.ref b0, .int (nI tl), .int (if numC tk tv 0 5 = 0 then tf else numC tk tv 0 5), .int (if numC tk tv 0 5 = 0 then tp else nI sa), .ref tb, .int (nI nx), .int (tk), .int (nI sa), .int (tv), .int (th), .int (tN), .int (tO), .int (tpd)]))]) rfl ?_
  refine v_st (st' := [.int (if numC tk tv 0 5 = 0 then 1 else 0)]) rfl ?_
  refine v_ifB_ne (pc := 6) 11 dX3_isNoteNotIn_6 (by decide) (fun c_6 => ?_) (fun c_6 => ?_)
  · skip
    refine v_aload_n (pc := 11) 0 dX3_isNoteNotIn_11 rfl rfl ?_
    refine v_dup (pc := 12) dX3_isNoteNotIn_12 rfl ?_
    refine gf_190 (pc := 13) 0 dX3_isNoteNotIn_13 rfl rfl ?_
    refine v_iconst (pc := 16) (v := 1) dX3_isNoteNotIn_16 (by decide) ?_
    refine v_aload_n (pc := 17) 0 dX3_isNoteNotIn_17 rfl rfl ?_
    refine gf_188 (pc := 18) 0 dX3_isNoteNotIn_18 rfl rfl ?_
    refine v_ishl (pc := 21) dX3_isNoteNotIn_21 ?_
    refine v_ior (pc := 22) dX3_isNoteNotIn_22 ?_
    refine pf_190 (pc := 23) (ws' := [(t0, .inr (3, [.ref b0, .int (nI tl), .int (if numC tk tv 0 5 = 0 then tf else numC tk tv 0 5), .int (if numC tk tv 0 5 = 0 then tp else nI sa), .ref tb, .int (nI nx), .int (tk), .int (nI sa), .int (tv), .int (th), .int ((tN) ||| ((1 : Int32) <<< ((tv) &&& 31))), .int (tO), .int (tpd)]))]) 0 dX3_isNoteNotIn_23 rfl rfl rfl (Nat.le_of_ble_eq_true rfl) rfl ?_
    refine v_iload_n (pc := 26) 1 dX3_isNoteNotIn_26 rfl rfl ?_
    refine v_aload_n (pc := 27) 0 dX3_isNoteNotIn_27 rfl rfl ?_
    refine gf_188 (pc := 28) 0 dX3_isNoteNotIn_28 rfl rfl ?_
    refine v_callBit (pc := 31) (rest := []) [] (by decide) tb_399 tb_58 tb_398 (c_X4_bitOf l E al tv) dX3_isNoteNotIn_31 rfl rfl (Nat.le_of_ble_eq_true rfl) (by decide) (by decide) rfl (Rt.len rfl) (Rt.go ?_)
    refine v_w (ws' := [(t0, .inr (3, [.ref b0, .int (nI tl), .int (if numC tk tv 0 5 = 0 then tf else numC tk tv 0 5), .int (if numC tk tv 0 5 = 0 then tp else nI sa), .ref tb, .int (nI nx), .int (tk), .int (nI sa), .int (tv), .int (th), .int ((tN) ||| ((1 : Int32) <<< ((tv) &&& 31))), .int (tO), .int (tpd)]))]) rfl ?_
    refine v_st (st' := [.int (bt1 al tv)]) rfl ?_
    refine v_if_eq (pc := 34) 49 dX3_isNoteNotIn_34 (by decide) (fun c_34 => ?_) (fun c_34 => ?_)
    · skip
      refine v_iconst (pc := 49) (v := 1) dX3_isNoteNotIn_49 (by decide) ?_
      refine v_goto (pc := 50) 54 dX3_isNoteNotIn_50 (by decide) ?_
      refine v_zret (pc := 54) dX3_isNoteNotIn_54 rfl rfl ⟨rfl, rfl⟩ (Rt.i2 ?_ ?_)
      · skip
        have hc : ntC tk tv al = 0 := by unfold ntC; rw [if_pos c_6, if_pos c_34]
        rw [hc]; rfl
      · skip
        have hc : ntC tk tv al = 0 := by unfold ntC; rw [if_pos c_6, if_pos c_34]
        simp only [hc, if_pos c_6]; rfl
    · skip
      refine v_aload_n (pc := 37) 0 dX3_isNoteNotIn_37 rfl rfl ?_
      refine v_iconst (pc := 38) (v := 4) dX3_isNoteNotIn_38 (by decide) ?_
      refine v_aload_n (pc := 39) 0 dX3_isNoteNotIn_39 rfl rfl ?_
      refine gf_187 (pc := 40) 0 dX3_isNoteNotIn_40 rfl rfl ?_
      refine v_callV (pc := 43) (rest := []) [0] 0 lk_311 (c_X3_fail l E t0 b0 tb tl nx sa (if numC tk tv 0 5 = 0 then tf else numC tk tv 0 5) (if numC tk tv 0 5 = 0 then tp else nI sa) tk tv th ((tN) ||| ((1 : Int32) <<< ((tv) &&& 31))) tO tpd 4 (nI sa)) dX3_isNoteNotIn_43 rfl rfl (Nat.le_of_ble_eq_true rfl) (by decide) rfl rfl rfl (by decide) rfl (Rt.len rfl) (Rt.go ?_)
      refine v_w (ws' := [(t0, .inr (3, [.ref b0, .int (nI tl), .int (4), .int ((nI sa)), .ref tb, .int (nI nx), .int (tk), .int (nI sa), .int (tv), .int (th), .int (((tN) ||| ((1 : Int32) <<< ((tv) &&& 31)))), .int (tO), .int (tpd)]))]) rfl ?_
      refine v_st (st' := [.int (0)]) rfl ?_
      refine v_if_eq (pc := 46) 53 dX3_isNoteNotIn_46 (by decide) (fun _ => ?_) (fun c => absurd c (by decide))
      refine v_iconst (pc := 53) (v := 0) dX3_isNoteNotIn_53 (by decide) ?_
      refine v_zret (pc := 54) dX3_isNoteNotIn_54 rfl rfl ⟨rfl, rfl⟩ (Rt.i2 ?_ ?_)
      · skip
        have hc : ntC tk tv al = 4 := by unfold ntC; rw [if_pos c_6, if_neg c_34]
        rw [hc]; rfl
      · skip
        have hc : ntC tk tv al = 4 := by unfold ntC; rw [if_pos c_6, if_neg c_34]
        simp only [hc, if_pos c_6]; rfl
  · skip
    refine v_iconst (pc := 9) (v := 0) dX3_isNoteNotIn_9 (by decide) ?_
    refine v_zret (pc := 10) dX3_isNoteNotIn_10 rfl rfl ⟨rfl, rfl⟩ (Rt.i2 ?_ ?_)
    · skip
      have hc : ntC tk tv al = numC tk tv 0 5 := by unfold ntC; rw [if_neg c_6]
      rw [hc, if_neg c_6]
    · skip
      have hc : ntC tk tv al = numC tk tv 0 5 := by unfold ntC; rw [if_neg c_6]
      simp only [hc, if_neg c_6]
theorem c_X3_takeToken (l : Launch) (E : VE) (t0 : Nat) (b0 : Nat) (tb : Nat) (tl : Nat) (nx : Nat) (sa : Nat) (tf : Int32) (tp : Int32) (tk : Int32) (tv : Int32) (th : Int32) (tN : Int32) (tO : Int32) (tpd : Int32) (by_ : Nat → Int32) (h_nx : nx ≤ tl) (h_tl : tl ≤ 160) : Ct l E yX3_takeToken cX3_takeToken 1 (Option.some FieldType.boolean) 1 22 0 0 [.ref t0] [(t0, .inr (3, [.ref b0, .int (nI tl), .int (tf), .int (tp), .ref tb, .int (nI nx), .int (tk), .int (nI sa), .int (tv), .int (th), .int (tN), .int (tO), .int (tpd)])), (tb, .inl (E.2.1 0, 160, .inl (by_)))] (Rt (some (.int (if tkO by_ tl nx = true then 1 else 0))) [(t0, .inr (3, [.ref b0, .int (nI tl), .int (if tkO by_ tl nx = true then tf else 1), .int (if tkO by_ tl nx = true then tp else nI (tkS by_ tl nx)), .ref tb, .int (nI (tkN by_ tl nx)), .int (tkK by_ tl nx), .int (nI (tkS by_ tl nx)), .int (tkV by_ tl nx tv), .int (th), .int (tN), .int (tO), .int (tpd)])), (tb, .inl (E.2.1 0, 160, .inl (by_)))]) := by
  refine Ct.of (own := RX3) (nm := "takeToken") (lv := [(0, .ref t0)]) (by decide) rfl rfl (Nat.le_of_ble_eq_true rfl) rfl ?_
  have loop_0 : ∀ (D_0 : Nat) (p : Nat), tl - p < D_0 → (nx ≤ p ∧ p ≤ tl) → (run qB by_ tl nx = run qB by_ tl p) → V l E RX3 cX3_takeToken 1 (Option.some FieldType.boolean) "takeToken" ({ frames := 1, cells := 0, slots := 0, locals := 22 }) [(t0, .inr (3, [.ref b0, .int (nI tl), .int (tf), .int (tp), .ref tb, .int (nI nx), .int (tk), .int (nI sa), .int (tv), .int (th), .int (tN), .int (tO), .int (tpd)])), (tb, .inl (E.2.1 0, 160, .inl (by_)))] 0 0 (Rt (some (.int (if tkO by_ tl nx = true then 1 else 0))) [(t0, .inr (3, [.ref b0, .int (nI tl), .int (if tkO by_ tl nx = true then tf else 1), .int (if tkO by_ tl nx = true then tp else nI (tkS by_ tl nx)), .ref tb, .int (nI (tkN by_ tl nx)), .int (tkK by_ tl nx), .int (nI (tkS by_ tl nx)), .int (tkV by_ tl nx tv), .int (th), .int (tN), .int (tO), .int (tpd)])), (tb, .inl (E.2.1 0, 160, .inl (by_)))]) 0 0 0 [(0, .ref t0)] [] [(t0, .inr (3, [.ref b0, .int (nI tl), .int (tf), .int (tp), .ref tb, .int (nI p), .int (tk), .int (nI sa), .int (tv), .int (th), .int (tN), .int (tO), .int (tpd)])), (tb, .inl (E.2.1 0, 160, .inl (by_)))] := by
    intro D_0
    induction D_0 with
    | zero => intro p h; exact absurd h (Nat.not_lt_zero _)
    | succ D_0 ih_0 =>
      intro p hmu_0 h_0_0 h_0_1
      refine v_aload_n (pc := 0) 0 dX3_takeToken_0 rfl rfl ?_
      refine gf_185 (pc := 1) 0 dX3_takeToken_1 rfl rfl ?_
      refine v_aload_n (pc := 4) 0 dX3_takeToken_4 rfl rfl ?_
      refine gf_178 (pc := 5) 0 dX3_takeToken_5 rfl rfl ?_
      refine v_cmpN_ge (pc := 8) (a := p) (b := tl) 38 dX3_takeToken_8 (by decide) (by omega) (by omega) (fun c_8 => ?_) (fun c_8 => ?_)
      · skip
        have hS : tkS by_ tl nx = p := by unfold tkS; rw [h_0_1]; exact run_stop (fun q => by omega)
        refine v_aload_n (pc := 38) 0 dX3_takeToken_38 rfl rfl ?_
        refine v_aload_n (pc := 39) 0 dX3_takeToken_39 rfl rfl ?_
        refine gf_185 (pc := 40) 0 dX3_takeToken_40 rfl rfl ?_
        refine pf_187 (pc := 43) (ws' := [(t0, .inr (3, [.ref b0, .int (nI tl), .int (tf), .int (tp), .ref tb, .int (nI p), .int (tk), .int (nI p), .int (tv), .int (th), .int (tN), .int (tO), .int (tpd)])), (tb, .inl (E.2.1 0, 160, .inl (by_)))]) 0 dX3_takeToken_43 rfl rfl rfl (Nat.le_of_ble_eq_true rfl) rfl ?_
        refine v_aload_n (pc := 46) 0 dX3_takeToken_46 rfl rfl ?_
        refine gf_185 (pc := 47) 0 dX3_takeToken_47 rfl rfl ?_
        refine v_aload_n (pc := 50) 0 dX3_takeToken_50 rfl rfl ?_
        refine gf_178 (pc := 51) 0 dX3_takeToken_51 rfl rfl ?_
        refine v_cmpN_lt (pc := 54) (a := p) (b := tl) 64 dX3_takeToken_54 (by decide) (by omega) (by omega) (fun c_54 => ?_) (fun c_54 => ?_)
        · skip
          refine v_aload_n (pc := 64) 0 dX3_takeToken_64 rfl rfl ?_
          refine gf_184 (pc := 65) 0 dX3_takeToken_65 rfl rfl ?_
          refine v_aload_n (pc := 68) 0 dX3_takeToken_68 rfl rfl ?_
          refine gf_185 (pc := 69) 0 dX3_takeToken_69 rfl rfl ?_
          refine v_baldN (pc := 72) 1 0 (p) dX3_takeToken_72 rfl rfl rfl (by omega) (by decide) ?_
          refine v_callS (pc := 73) (rest := []) [] lk_305 (c_X3_isLetter l E (by_ p)) dX3_takeToken_73 rfl rfl (Nat.le_of_ble_eq_true rfl) (by decide) (by decide) rfl (Rt.len rfl) (Rt.go ?_)
          refine v_w (ws' := [(t0, .inr (3, [.ref b0, .int (nI tl), .int (tf), .int (tp), .ref tb, .int (nI p), .int (tk), .int (nI p), .int (tv), .int (th), .int (tN), .int (tO), .int (tpd)])), (tb, .inl (E.2.1 0, 160, .inl (by_)))]) rfl ?_
          refine v_st (st' := [.int (if ¬ (by_ p) < 97 ∧ ¬ 122 < (by_ p) then 1 else 0)]) rfl ?_
          refine v_ifB_eq (pc := 76) 125 dX3_takeToken_76 (by decide) (fun c_76 => ?_) (fun c_76 => ?_)
          · skip
            refine v_aload_n (pc := 125) 0 dX3_takeToken_125 rfl rfl ?_
            refine gf_184 (pc := 126) 0 dX3_takeToken_126 rfl rfl ?_
            refine v_aload_n (pc := 129) 0 dX3_takeToken_129 rfl rfl ?_
            refine gf_185 (pc := 130) 0 dX3_takeToken_130 rfl rfl ?_
            refine v_baldN (pc := 133) 1 0 (p) dX3_takeToken_133 rfl rfl rfl (by omega) (by decide) ?_
            refine v_callS (pc := 134) (rest := []) [] lk_308 (c_X3_isFigure l E (by_ p)) dX3_takeToken_134 rfl rfl (Nat.le_of_ble_eq_true rfl) (by decide) (by decide) rfl (Rt.len rfl) (Rt.go ?_)
            refine v_w (ws' := [(t0, .inr (3, [.ref b0, .int (nI tl), .int (tf), .int (tp), .ref tb, .int (nI p), .int (tk), .int (nI p), .int (tv), .int (th), .int (tN), .int (tO), .int (tpd)])), (tb, .inl (E.2.1 0, 160, .inl (by_)))]) rfl ?_
            refine v_st (st' := [.int (if ¬ (by_ p) < 48 ∧ ¬ 57 < (by_ p) then 1 else 0)]) rfl ?_
            refine v_ifB_eq (pc := 137) 244 dX3_takeToken_137 (by decide) (fun c_137 => ?_) (fun c_137 => ?_)
            · skip
              refine v_aload_n (pc := 244) 0 dX3_takeToken_244 rfl rfl ?_
              refine v_iconst (pc := 245) (v := 3) dX3_takeToken_245 (by decide) ?_
              refine pf_186 (pc := 246) (ws' := [(t0, .inr (3, [.ref b0, .int (nI tl), .int (tf), .int (tp), .ref tb, .int (nI p), .int (3), .int (nI p), .int (tv), .int (th), .int (tN), .int (tO), .int (tpd)])), (tb, .inl (E.2.1 0, 160, .inl (by_)))]) 0 dX3_takeToken_246 rfl rfl rfl (Nat.le_of_ble_eq_true rfl) rfl ?_
              refine v_aload_n (pc := 249) 0 dX3_takeToken_249 rfl rfl ?_
              refine v_dup (pc := 250) dX3_takeToken_250 rfl ?_
              refine gf_185 (pc := 251) 0 dX3_takeToken_251 rfl rfl ?_
              refine v_iconst (pc := 254) (v := 1) dX3_takeToken_254 (by decide) ?_
              refine v_iadd (pc := 255) dX3_takeToken_255 ?_
              refine v_st (st' := [.int (nI (p + 1)), .ref t0]) (by rw [nI_1]) ?_
              refine pf_185 (pc := 256) (ws' := [(t0, .inr (3, [.ref b0, .int (nI tl), .int (tf), .int (tp), .ref tb, .int (nI (p + 1)), .int (3), .int (nI p), .int (tv), .int (th), .int (tN), .int (tO), .int (tpd)])), (tb, .inl (E.2.1 0, 160, .inl (by_)))]) 0 dX3_takeToken_256 rfl rfl rfl (Nat.le_of_ble_eq_true rfl) rfl ?_
              refine v_aload_n (pc := 259) 0 dX3_takeToken_259 rfl rfl ?_
              refine gf_184 (pc := 260) 0 dX3_takeToken_260 rfl rfl ?_
              refine v_aload_n (pc := 263) 0 dX3_takeToken_263 rfl rfl ?_
              refine gf_187 (pc := 264) 0 dX3_takeToken_264 rfl rfl ?_
              refine v_baldN (pc := 267) 1 0 (p) dX3_takeToken_267 rfl rfl rfl (by omega) (by decide) ?_
              refine v_bipush (pc := 268) (v := 59) dX3_takeToken_268 (by decide) ?_
              refine v_icmp_eq (pc := 270) 285 dX3_takeToken_270 (by decide) (fun c_270 => ?_) (fun c_270 => ?_)
              · skip
                refine v_iconst (pc := 285) (v := 1) dX3_takeToken_285 (by decide) ?_
                refine v_goto (pc := 286) 290 dX3_takeToken_286 (by decide) ?_
                refine v_zret (pc := 290) dX3_takeToken_290 rfl rfl ⟨rfl, rfl⟩ (Rt.i2 ?_ ?_)
                · skip
                  have hO : tkO by_ tl nx = true := by unfold tkO; rw [hS, if_neg (show ¬ tl ≤ p by omega), if_neg (show ¬ qL (by_ p) = true by simpa [qL] using c_76), if_neg (show ¬ qD (by_ p) = true by simpa [qD] using c_137)]; rw [decide_eq_true c_270]
                  rw [hO]; rfl
                · skip
                  have hO : tkO by_ tl nx = true := by unfold tkO; rw [hS, if_neg (show ¬ tl ≤ p by omega), if_neg (show ¬ qL (by_ p) = true by simpa [qL] using c_76), if_neg (show ¬ qD (by_ p) = true by simpa [qD] using c_137)]; rw [decide_eq_true c_270]
                  have hN : tkN by_ tl nx = p + 1 := by unfold tkN; rw [hS, if_neg (show ¬ tl ≤ p by omega), if_neg (show ¬ qL (by_ p) = true by simpa [qL] using c_76), if_neg (show ¬ qD (by_ p) = true by simpa [qD] using c_137)]
                  have hK : tkK by_ tl nx = 3 := by unfold tkK; rw [hS, if_neg (show ¬ tl ≤ p by omega), if_neg (show ¬ qL (by_ p) = true by simpa [qL] using c_76), if_neg (show ¬ qD (by_ p) = true by simpa [qD] using c_137)]
                  have hV : tkV by_ tl nx tv = tv := by unfold tkV; rw [hS, if_neg (show ¬ tl ≤ p by omega), if_neg (show ¬ qL (by_ p) = true by simpa [qL] using c_76), if_neg (show ¬ qD (by_ p) = true by simpa [qD] using c_137)]
                  rw [hO, hN, hK, hV, hS]; rfl
              · skip
                refine v_aload_n (pc := 273) 0 dX3_takeToken_273 rfl rfl ?_
                refine v_iconst (pc := 274) (v := 1) dX3_takeToken_274 (by decide) ?_
                refine v_aload_n (pc := 275) 0 dX3_takeToken_275 rfl rfl ?_
                refine gf_187 (pc := 276) 0 dX3_takeToken_276 rfl rfl ?_
                refine v_callV (pc := 279) (rest := []) [0] 0 lk_311 (c_X3_fail l E t0 b0 tb tl (p + 1) p tf tp 3 tv th tN tO tpd 1 (nI p)) dX3_takeToken_279 rfl rfl (Nat.le_of_ble_eq_true rfl) (by decide) rfl rfl rfl (by decide) rfl (Rt.len rfl) (Rt.go ?_)
                refine v_w (ws' := [(t0, .inr (3, [.ref b0, .int (nI tl), .int (1), .int ((nI p)), .ref tb, .int (nI (p + 1)), .int (3), .int (nI p), .int (tv), .int (th), .int (tN), .int (tO), .int (tpd)])), (tb, .inl (E.2.1 0, 160, .inl (by_)))]) rfl ?_
                refine v_st (st' := [.int (0)]) rfl ?_
                refine v_if_eq (pc := 282) 289 dX3_takeToken_282 (by decide) (fun _ => ?_) (fun c => absurd c (by decide))
                refine v_iconst (pc := 289) (v := 0) dX3_takeToken_289 (by decide) ?_
                refine v_zret (pc := 290) dX3_takeToken_290 rfl rfl ⟨rfl, rfl⟩ (Rt.i2 ?_ ?_)
                · skip
                  have hO : tkO by_ tl nx = false := by unfold tkO; rw [hS, if_neg (show ¬ tl ≤ p by omega), if_neg (show ¬ qL (by_ p) = true by simpa [qL] using c_76), if_neg (show ¬ qD (by_ p) = true by simpa [qD] using c_137)]; rw [decide_eq_false c_270]
                  rw [hO]; rfl
                · skip
                  have hO : tkO by_ tl nx = false := by unfold tkO; rw [hS, if_neg (show ¬ tl ≤ p by omega), if_neg (show ¬ qL (by_ p) = true by simpa [qL] using c_76), if_neg (show ¬ qD (by_ p) = true by simpa [qD] using c_137)]; rw [decide_eq_false c_270]
                  have hN : tkN by_ tl nx = p + 1 := by unfold tkN; rw [hS, if_neg (show ¬ tl ≤ p by omega), if_neg (show ¬ qL (by_ p) = true by simpa [qL] using c_76), if_neg (show ¬ qD (by_ p) = true by simpa [qD] using c_137)]
                  have hK : tkK by_ tl nx = 3 := by unfold tkK; rw [hS, if_neg (show ¬ tl ≤ p by omega), if_neg (show ¬ qL (by_ p) = true by simpa [qL] using c_76), if_neg (show ¬ qD (by_ p) = true by simpa [qD] using c_137)]
                  have hV : tkV by_ tl nx tv = tv := by unfold tkV; rw [hS, if_neg (show ¬ tl ≤ p by omega), if_neg (show ¬ qL (by_ p) = true by simpa [qL] using c_76), if_neg (show ¬ qD (by_ p) = true by simpa [qD] using c_137)]
                  rw [hO, hN, hK, hV, hS]; rfl
            · skip
              refine v_aload_n (pc := 140) 0 dX3_takeToken_140 rfl rfl ?_
              refine v_iconst (pc := 141) (v := 2) dX3_takeToken_141 (by decide) ?_
              refine pf_186 (pc := 142) (ws' := [(t0, .inr (3, [.ref b0, .int (nI tl), .int (tf), .int (tp), .ref tb, .int (nI p), .int (2), .int (nI p), .int (tv), .int (th), .int (tN), .int (tO), .int (tpd)])), (tb, .inl (E.2.1 0, 160, .inl (by_)))]) 0 dX3_takeToken_142 rfl rfl rfl (Nat.le_of_ble_eq_true rfl) rfl ?_
              refine v_aload_n (pc := 145) 0 dX3_takeToken_145 rfl rfl ?_
              refine v_iconst (pc := 146) (v := 0) dX3_takeToken_146 (by decide) ?_
              refine pf_188 (pc := 147) (ws' := [(t0, .inr (3, [.ref b0, .int (nI tl), .int (tf), .int (tp), .ref tb, .int (nI p), .int (2), .int (nI p), .int (0), .int (th), .int (tN), .int (tO), .int (tpd)])), (tb, .inl (E.2.1 0, 160, .inl (by_)))]) 0 dX3_takeToken_147 rfl rfl rfl (Nat.le_of_ble_eq_true rfl) rfl ?_
              have loop_150 : ∀ (D_150 : Nat) (p3 : Nat) (vv : Int32), tl - p3 < D_150 → (p ≤ p3 ∧ p3 ≤ tl) → (run qD by_ tl p = run qD by_ tl p3) → (vv = dgV by_ p (p3 - p)) → V l E RX3 cX3_takeToken 1 (Option.some FieldType.boolean) "takeToken" ({ frames := 1, cells := 0, slots := 0, locals := 22 }) [(t0, .inr (3, [.ref b0, .int (nI tl), .int (tf), .int (tp), .ref tb, .int (nI nx), .int (tk), .int (nI sa), .int (tv), .int (th), .int (tN), .int (tO), .int (tpd)])), (tb, .inl (E.2.1 0, 160, .inl (by_)))] 0 0 (Rt (some (.int (if tkO by_ tl nx = true then 1 else 0))) [(t0, .inr (3, [.ref b0, .int (nI tl), .int (if tkO by_ tl nx = true then tf else 1), .int (if tkO by_ tl nx = true then tp else nI (tkS by_ tl nx)), .ref tb, .int (nI (tkN by_ tl nx)), .int (tkK by_ tl nx), .int (nI (tkS by_ tl nx)), .int (tkV by_ tl nx tv), .int (th), .int (tN), .int (tO), .int (tpd)])), (tb, .inl (E.2.1 0, 160, .inl (by_)))]) 0 0 150 [(0, .ref t0)] [] [(t0, .inr (3, [.ref b0, .int (nI tl), .int (tf), .int (tp), .ref tb, .int (nI p3), .int (2), .int (nI p), .int (vv), .int (th), .int (tN), .int (tO), .int (tpd)])), (tb, .inl (E.2.1 0, 160, .inl (by_)))] := by
                intro D_150
                induction D_150 with
                | zero => intro p3 vv h; exact absurd h (Nat.not_lt_zero _)
                | succ D_150 ih_150 =>
                  intro p3 vv hmu_150 h_150_0 h_150_1 h_150_2
                  refine v_aload_n (pc := 150) 0 dX3_takeToken_150 rfl rfl ?_
                  refine gf_185 (pc := 151) 0 dX3_takeToken_151 rfl rfl ?_
                  refine v_aload_n (pc := 154) 0 dX3_takeToken_154 rfl rfl ?_
                  refine gf_178 (pc := 155) 0 dX3_takeToken_155 rfl rfl ?_
                  refine v_cmpN_ge (pc := 158) (a := p3) (b := tl) 213 dX3_takeToken_158 (by decide) (by omega) (by omega) (fun c_158 => ?_) (fun c_158 => ?_)
                  · skip
                    refine v_aload_n (pc := 213) 0 dX3_takeToken_213 rfl rfl ?_
                    refine gf_185 (pc := 214) 0 dX3_takeToken_214 rfl rfl ?_
                    refine v_aload_n (pc := 217) 0 dX3_takeToken_217 rfl rfl ?_
                    refine gf_187 (pc := 218) 0 dX3_takeToken_218 rfl rfl ?_
                    refine v_isub (pc := 221) dX3_takeToken_221 ?_
                    refine v_st (st' := [.int (nI (p3 - p))]) (by rw [pk_sub (by omega)]) ?_
                    refine v_iconst (pc := 222) (v := 2) dX3_takeToken_222 (by decide) ?_
                    refine v_cmpN_le (pc := 223) (a := p3 - p) (b := 2) 238 dX3_takeToken_223 (by decide) (by omega) (by omega) (fun c_223 => ?_) (fun c_223 => ?_)
                    · skip
                      refine v_iconst (pc := 238) (v := 1) dX3_takeToken_238 (by decide) ?_
                      refine v_goto (pc := 239) 243 dX3_takeToken_239 (by decide) ?_
                      refine v_zret (pc := 243) dX3_takeToken_243 rfl rfl ⟨rfl, rfl⟩ (Rt.i2 ?_ ?_)
                      · skip
                        have hrd : run qD by_ tl p = p3 := by rw [h_150_1]; exact run_stop (fun q => by omega)
                        have hO : tkO by_ tl nx = true := by unfold tkO; rw [hS, if_neg (show ¬ tl ≤ p by omega), if_neg (show ¬ qL (by_ p) = true by simpa [qL] using c_76), if_pos (show qD (by_ p) = true from decide_eq_true c_137), hrd]; rw [decide_eq_true (show p3 - p ≤ 2 by omega)]
                        rw [hO]; rfl
                      · skip
                        have hrd : run qD by_ tl p = p3 := by rw [h_150_1]; exact run_stop (fun q => by omega)
                        have hO : tkO by_ tl nx = true := by unfold tkO; rw [hS, if_neg (show ¬ tl ≤ p by omega), if_neg (show ¬ qL (by_ p) = true by simpa [qL] using c_76), if_pos (show qD (by_ p) = true from decide_eq_true c_137), hrd]; rw [decide_eq_true (show p3 - p ≤ 2 by omega)]
                        have hN : tkN by_ tl nx = p3 := by unfold tkN; rw [hS, if_neg (show ¬ tl ≤ p by omega), if_neg (show ¬ qL (by_ p) = true by simpa [qL] using c_76), if_pos (show qD (by_ p) = true from decide_eq_true c_137), hrd]
                        have hK : tkK by_ tl nx = 2 := by unfold tkK; rw [hS, if_neg (show ¬ tl ≤ p by omega), if_neg (show ¬ qL (by_ p) = true by simpa [qL] using c_76), if_pos (show qD (by_ p) = true from decide_eq_true c_137)]
                        have hV : tkV by_ tl nx tv = vv := by unfold tkV; rw [hS, if_neg (show ¬ tl ≤ p by omega), if_neg (show ¬ qL (by_ p) = true by simpa [qL] using c_76), if_pos (show qD (by_ p) = true from decide_eq_true c_137), hrd]; exact h_150_2.symm
                        rw [hO, hN, hK, hV, hS]; rfl
                    · skip
                      refine v_aload_n (pc := 226) 0 dX3_takeToken_226 rfl rfl ?_
                      refine v_iconst (pc := 227) (v := 1) dX3_takeToken_227 (by decide) ?_
                      refine v_aload_n (pc := 228) 0 dX3_takeToken_228 rfl rfl ?_
                      refine gf_187 (pc := 229) 0 dX3_takeToken_229 rfl rfl ?_
                      refine v_callV (pc := 232) (rest := []) [0] 0 lk_311 (c_X3_fail l E t0 b0 tb tl p3 p tf tp 2 vv th tN tO tpd 1 (nI p)) dX3_takeToken_232 rfl rfl (Nat.le_of_ble_eq_true rfl) (by decide) rfl rfl rfl (by decide) rfl (Rt.len rfl) (Rt.go ?_)
                      refine v_w (ws' := [(t0, .inr (3, [.ref b0, .int (nI tl), .int (1), .int ((nI p)), .ref tb, .int (nI p3), .int (2), .int (nI p), .int (vv), .int (th), .int (tN), .int (tO), .int (tpd)])), (tb, .inl (E.2.1 0, 160, .inl (by_)))]) rfl ?_
                      refine v_st (st' := [.int (0)]) rfl ?_
                      refine v_if_eq (pc := 235) 242 dX3_takeToken_235 (by decide) (fun _ => ?_) (fun c => absurd c (by decide))
                      refine v_iconst (pc := 242) (v := 0) dX3_takeToken_242 (by decide) ?_
                      refine v_zret (pc := 243) dX3_takeToken_243 rfl rfl ⟨rfl, rfl⟩ (Rt.i2 ?_ ?_)
                      · skip
                        have hrd : run qD by_ tl p = p3 := by rw [h_150_1]; exact run_stop (fun q => by omega)
                        have hO : tkO by_ tl nx = false := by unfold tkO; rw [hS, if_neg (show ¬ tl ≤ p by omega), if_neg (show ¬ qL (by_ p) = true by simpa [qL] using c_76), if_pos (show qD (by_ p) = true from decide_eq_true c_137), hrd]; rw [decide_eq_false (show ¬ p3 - p ≤ 2 by omega)]
                        rw [hO]; rfl
                      · skip
                        have hrd : run qD by_ tl p = p3 := by rw [h_150_1]; exact run_stop (fun q => by omega)
                        have hO : tkO by_ tl nx = false := by unfold tkO; rw [hS, if_neg (show ¬ tl ≤ p by omega), if_neg (show ¬ qL (by_ p) = true by simpa [qL] using c_76), if_pos (show qD (by_ p) = true from decide_eq_true c_137), hrd]; rw [decide_eq_false (show ¬ p3 - p ≤ 2 by omega)]
                        have hN : tkN by_ tl nx = p3 := by unfold tkN; rw [hS, if_neg (show ¬ tl ≤ p by omega), if_neg (show ¬ qL (by_ p) = true by simpa [qL] using c_76), if_pos (show qD (by_ p) = true from decide_eq_true c_137), hrd]
                        have hK : tkK by_ tl nx = 2 := by unfold tkK; rw [hS, if_neg (show ¬ tl ≤ p by omega), if_neg (show ¬ qL (by_ p) = true by simpa [qL] using c_76), if_pos (show qD (by_ p) = true from decide_eq_true c_137)]
                        have hV : tkV by_ tl nx tv = vv := by unfold tkV; rw [hS, if_neg (show ¬ tl ≤ p by omega), if_neg (show ¬ qL (by_ p) = true by simpa [qL] using c_76), if_pos (show qD (by_ p) = true from decide_eq_true c_137), hrd]; exact h_150_2.symm
                        rw [hO, hN, hK, hV, hS]; rfl
                  · skip
                    refine v_aload_n (pc := 161) 0 dX3_takeToken_161 rfl rfl ?_
                    refine gf_184 (pc := 162) 0 dX3_takeToken_162 rfl rfl ?_
                    refine v_aload_n (pc := 165) 0 dX3_takeToken_165 rfl rfl ?_
                    refine gf_185 (pc := 166) 0 dX3_takeToken_166 rfl rfl ?_
                    refine v_baldN (pc := 169) 1 0 (p3) dX3_takeToken_169 rfl rfl rfl (by omega) (by decide) ?_
                    refine v_callS (pc := 170) (rest := []) [] lk_308 (c_X3_isFigure l E (by_ p3)) dX3_takeToken_170 rfl rfl (Nat.le_of_ble_eq_true rfl) (by decide) (by decide) rfl (Rt.len rfl) (Rt.go ?_)
                    refine v_w (ws' := [(t0, .inr (3, [.ref b0, .int (nI tl), .int (tf), .int (tp), .ref tb, .int (nI p3), .int (2), .int (nI p), .int (vv), .int (th), .int (tN), .int (tO), .int (tpd)])), (tb, .inl (E.2.1 0, 160, .inl (by_)))]) rfl ?_
                    refine v_st (st' := [.int (if ¬ (by_ p3) < 48 ∧ ¬ 57 < (by_ p3) then 1 else 0)]) rfl ?_
                    refine v_ifB_eq (pc := 173) 213 dX3_takeToken_173 (by decide) (fun c_173 => ?_) (fun c_173 => ?_)
                    · skip
                      refine v_aload_n (pc := 213) 0 dX3_takeToken_213 rfl rfl ?_
                      refine gf_185 (pc := 214) 0 dX3_takeToken_214 rfl rfl ?_
                      refine v_aload_n (pc := 217) 0 dX3_takeToken_217 rfl rfl ?_
                      refine gf_187 (pc := 218) 0 dX3_takeToken_218 rfl rfl ?_
                      refine v_isub (pc := 221) dX3_takeToken_221 ?_
                      refine v_st (st' := [.int (nI (p3 - p))]) (by rw [pk_sub (by omega)]) ?_
                      refine v_iconst (pc := 222) (v := 2) dX3_takeToken_222 (by decide) ?_
                      refine v_cmpN_le (pc := 223) (a := p3 - p) (b := 2) 238 dX3_takeToken_223 (by decide) (by omega) (by omega) (fun c_223 => ?_) (fun c_223 => ?_)
                      · skip
                        refine v_iconst (pc := 238) (v := 1) dX3_takeToken_238 (by decide) ?_
                        refine v_goto (pc := 239) 243 dX3_takeToken_239 (by decide) ?_
                        refine v_zret (pc := 243) dX3_takeToken_243 rfl rfl ⟨rfl, rfl⟩ (Rt.i2 ?_ ?_)
                        · skip
                          have hrd : run qD by_ tl p = p3 := by rw [h_150_1]; exact run_stop (fun q => c_173 (by simpa [qD] using q.2))
                          have hO : tkO by_ tl nx = true := by unfold tkO; rw [hS, if_neg (show ¬ tl ≤ p by omega), if_neg (show ¬ qL (by_ p) = true by simpa [qL] using c_76), if_pos (show qD (by_ p) = true from decide_eq_true c_137), hrd]; rw [decide_eq_true (show p3 - p ≤ 2 by omega)]
                          rw [hO]; rfl
                        · skip
                          have hrd : run qD by_ tl p = p3 := by rw [h_150_1]; exact run_stop (fun q => c_173 (by simpa [qD] using q.2))
                          have hO : tkO by_ tl nx = true := by unfold tkO; rw [hS, if_neg (show ¬ tl ≤ p by omega), if_neg (show ¬ qL (by_ p) = true by simpa [qL] using c_76), if_pos (show qD (by_ p) = true from decide_eq_true c_137), hrd]; rw [decide_eq_true (show p3 - p ≤ 2 by omega)]
                          have hN : tkN by_ tl nx = p3 := by unfold tkN; rw [hS, if_neg (show ¬ tl ≤ p by omega), if_neg (show ¬ qL (by_ p) = true by simpa [qL] using c_76), if_pos (show qD (by_ p) = true from decide_eq_true c_137), hrd]
                          have hK : tkK by_ tl nx = 2 := by unfold tkK; rw [hS, if_neg (show ¬ tl ≤ p by omega), if_neg (show ¬ qL (by_ p) = true by simpa [qL] using c_76), if_pos (show qD (by_ p) = true from decide_eq_true c_137)]
                          have hV : tkV by_ tl nx tv = vv := by unfold tkV; rw [hS, if_neg (show ¬ tl ≤ p by omega), if_neg (show ¬ qL (by_ p) = true by simpa [qL] using c_76), if_pos (show qD (by_ p) = true from decide_eq_true c_137), hrd]; exact h_150_2.symm
                          rw [hO, hN, hK, hV, hS]; rfl
                      · skip
                        refine v_aload_n (pc := 226) 0 dX3_takeToken_226 rfl rfl ?_
                        refine v_iconst (pc := 227) (v := 1) dX3_takeToken_227 (by decide) ?_
                        refine v_aload_n (pc := 228) 0 dX3_takeToken_228 rfl rfl ?_
                        refine gf_187 (pc := 229) 0 dX3_takeToken_229 rfl rfl ?_
                        refine v_callV (pc := 232) (rest := []) [0] 0 lk_311 (c_X3_fail l E t0 b0 tb tl p3 p tf tp 2 vv th tN tO tpd 1 (nI p)) dX3_takeToken_232 rfl rfl (Nat.le_of_ble_eq_true rfl) (by decide) rfl rfl rfl (by decide) rfl (Rt.len rfl) (Rt.go ?_)
                        refine v_w (ws' := [(t0, .inr (3, [.ref b0, .int (nI tl), .int (1), .int ((nI p)), .ref tb, .int (nI p3), .int (2), .int (nI p), .int (vv), .int (th), .int (tN), .int (tO), .int (tpd)])), (tb, .inl (E.2.1 0, 160, .inl (by_)))]) rfl ?_
                        refine v_st (st' := [.int (0)]) rfl ?_
                        refine v_if_eq (pc := 235) 242 dX3_takeToken_235 (by decide) (fun _ => ?_) (fun c => absurd c (by decide))
                        refine v_iconst (pc := 242) (v := 0) dX3_takeToken_242 (by decide) ?_
                        refine v_zret (pc := 243) dX3_takeToken_243 rfl rfl ⟨rfl, rfl⟩ (Rt.i2 ?_ ?_)
                        · skip
                          have hrd : run qD by_ tl p = p3 := by rw [h_150_1]; exact run_stop (fun q => c_173 (by simpa [qD] using q.2))
                          have hO : tkO by_ tl nx = false := by unfold tkO; rw [hS, if_neg (show ¬ tl ≤ p by omega), if_neg (show ¬ qL (by_ p) = true by simpa [qL] using c_76), if_pos (show qD (by_ p) = true from decide_eq_true c_137), hrd]; rw [decide_eq_false (show ¬ p3 - p ≤ 2 by omega)]
                          rw [hO]; rfl
                        · skip
                          have hrd : run qD by_ tl p = p3 := by rw [h_150_1]; exact run_stop (fun q => c_173 (by simpa [qD] using q.2))
                          have hO : tkO by_ tl nx = false := by unfold tkO; rw [hS, if_neg (show ¬ tl ≤ p by omega), if_neg (show ¬ qL (by_ p) = true by simpa [qL] using c_76), if_pos (show qD (by_ p) = true from decide_eq_true c_137), hrd]; rw [decide_eq_false (show ¬ p3 - p ≤ 2 by omega)]
                          have hN : tkN by_ tl nx = p3 := by unfold tkN; rw [hS, if_neg (show ¬ tl ≤ p by omega), if_neg (show ¬ qL (by_ p) = true by simpa [qL] using c_76), if_pos (show qD (by_ p) = true from decide_eq_true c_137), hrd]
                          have hK : tkK by_ tl nx = 2 := by unfold tkK; rw [hS, if_neg (show ¬ tl ≤ p by omega), if_neg (show ¬ qL (by_ p) = true by simpa [qL] using c_76), if_pos (show qD (by_ p) = true from decide_eq_true c_137)]
                          have hV : tkV by_ tl nx tv = vv := by unfold tkV; rw [hS, if_neg (show ¬ tl ≤ p by omega), if_neg (show ¬ qL (by_ p) = true by simpa [qL] using c_76), if_pos (show qD (by_ p) = true from decide_eq_true c_137), hrd]; exact h_150_2.symm
                          rw [hO, hN, hK, hV, hS]; rfl
                    · skip
                      refine v_aload_n (pc := 176) 0 dX3_takeToken_176 rfl rfl ?_
                      refine v_aload_n (pc := 177) 0 dX3_takeToken_177 rfl rfl ?_
                      refine gf_188 (pc := 178) 0 dX3_takeToken_178 rfl rfl ?_
                      refine v_bipush (pc := 181) (v := 10) dX3_takeToken_181 (by decide) ?_
                      refine v_imul (pc := 183) dX3_takeToken_183 ?_
                      refine v_aload_n (pc := 184) 0 dX3_takeToken_184 rfl rfl ?_
                      refine gf_184 (pc := 185) 0 dX3_takeToken_185 rfl rfl ?_
                      refine v_aload_n (pc := 188) 0 dX3_takeToken_188 rfl rfl ?_
                      refine gf_185 (pc := 189) 0 dX3_takeToken_189 rfl rfl ?_
                      refine v_baldN (pc := 192) 1 0 (p3) dX3_takeToken_192 rfl rfl rfl (by omega) (by decide) ?_
                      refine v_iadd (pc := 193) dX3_takeToken_193 ?_
                      refine v_bipush (pc := 194) (v := 48) dX3_takeToken_194 (by decide) ?_
                      refine v_isub (pc := 196) dX3_takeToken_196 ?_
                      refine pf_188 (pc := 197) (ws' := [(t0, .inr (3, [.ref b0, .int (nI tl), .int (tf), .int (tp), .ref tb, .int (nI p3), .int (2), .int (nI p), .int ((((vv) * (10)) + (by_ p3)) - (48)), .int (th), .int (tN), .int (tO), .int (tpd)])), (tb, .inl (E.2.1 0, 160, .inl (by_)))]) 0 dX3_takeToken_197 rfl rfl rfl (Nat.le_of_ble_eq_true rfl) rfl ?_
                      refine v_aload_n (pc := 200) 0 dX3_takeToken_200 rfl rfl ?_
                      refine v_dup (pc := 201) dX3_takeToken_201 rfl ?_
                      refine gf_185 (pc := 202) 0 dX3_takeToken_202 rfl rfl ?_
                      refine v_iconst (pc := 205) (v := 1) dX3_takeToken_205 (by decide) ?_
                      refine v_iadd (pc := 206) dX3_takeToken_206 ?_
                      refine v_st (st' := [.int (nI (p3 + 1)), .ref t0]) (by rw [nI_1]) ?_
                      refine pf_185 (pc := 207) (ws' := [(t0, .inr (3, [.ref b0, .int (nI tl), .int (tf), .int (tp), .ref tb, .int (nI (p3 + 1)), .int (2), .int (nI p), .int ((((vv) * (10)) + (by_ p3)) - (48)), .int (th), .int (tN), .int (tO), .int (tpd)])), (tb, .inl (E.2.1 0, 160, .inl (by_)))]) 0 dX3_takeToken_207 rfl rfl rfl (Nat.le_of_ble_eq_true rfl) rfl ?_
                      refine v_goto (pc := 210) 150 dX3_takeToken_210 (by decide) ?_
                      refine v_lv (lv' := [(0, .ref t0)]) [0] rfl ?_
                      refine ih_150 (p3 + 1) ((((vv) * (10)) + (by_ p3)) - (48)) (by omega) ?_ ?_ ?_
                      · omega
                      · rw [h_150_1]; exact run_step (by omega) (decide_eq_true c_173)
                      · rw [show p3 + 1 - p = (p3 - p) + 1 by omega, dgV, ← h_150_2, show p + (p3 - p) = p3 by omega]
              refine v_lv (lv' := [(0, .ref t0)]) [0] rfl ?_
              refine loop_150 ((tl - p) + 1) p 0 (Nat.lt_succ_self _) ?_ ?_ ?_
              · omega
              · rfl
              · rw [Nat.sub_self]; rfl
          · skip
            refine v_aload_n (pc := 79) 0 dX3_takeToken_79 rfl rfl ?_
            refine v_iconst (pc := 80) (v := 1) dX3_takeToken_80 (by decide) ?_
            refine pf_186 (pc := 81) (ws' := [(t0, .inr (3, [.ref b0, .int (nI tl), .int (tf), .int (tp), .ref tb, .int (nI p), .int (1), .int (nI p), .int (tv), .int (th), .int (tN), .int (tO), .int (tpd)])), (tb, .inl (E.2.1 0, 160, .inl (by_)))]) 0 dX3_takeToken_81 rfl rfl rfl (Nat.le_of_ble_eq_true rfl) rfl ?_
            have loop_84 : ∀ (D_84 : Nat) (p2 : Nat), tl - p2 < D_84 → (p ≤ p2 ∧ p2 ≤ tl) → (run qL by_ tl p = run qL by_ tl p2) → V l E RX3 cX3_takeToken 1 (Option.some FieldType.boolean) "takeToken" ({ frames := 1, cells := 0, slots := 0, locals := 22 }) [(t0, .inr (3, [.ref b0, .int (nI tl), .int (tf), .int (tp), .ref tb, .int (nI nx), .int (tk), .int (nI sa), .int (tv), .int (th), .int (tN), .int (tO), .int (tpd)])), (tb, .inl (E.2.1 0, 160, .inl (by_)))] 0 0 (Rt (some (.int (if tkO by_ tl nx = true then 1 else 0))) [(t0, .inr (3, [.ref b0, .int (nI tl), .int (if tkO by_ tl nx = true then tf else 1), .int (if tkO by_ tl nx = true then tp else nI (tkS by_ tl nx)), .ref tb, .int (nI (tkN by_ tl nx)), .int (tkK by_ tl nx), .int (nI (tkS by_ tl nx)), .int (tkV by_ tl nx tv), .int (th), .int (tN), .int (tO), .int (tpd)])), (tb, .inl (E.2.1 0, 160, .inl (by_)))]) 0 0 84 [(0, .ref t0)] [] [(t0, .inr (3, [.ref b0, .int (nI tl), .int (tf), .int (tp), .ref tb, .int (nI p2), .int (1), .int (nI p), .int (tv), .int (th), .int (tN), .int (tO), .int (tpd)])), (tb, .inl (E.2.1 0, 160, .inl (by_)))] := by
              intro D_84
              induction D_84 with
              | zero => intro p2 h; exact absurd h (Nat.not_lt_zero _)
              | succ D_84 ih_84 =>
                intro p2 hmu_84 h_84_0 h_84_1
                refine v_aload_n (pc := 84) 0 dX3_takeToken_84 rfl rfl ?_
                refine gf_185 (pc := 85) 0 dX3_takeToken_85 rfl rfl ?_
                refine v_aload_n (pc := 88) 0 dX3_takeToken_88 rfl rfl ?_
                refine gf_178 (pc := 89) 0 dX3_takeToken_89 rfl rfl ?_
                refine v_cmpN_ge (pc := 92) (a := p2) (b := tl) 123 dX3_takeToken_92 (by decide) (by omega) (by omega) (fun c_92 => ?_) (fun c_92 => ?_)
                · skip
                  refine v_iconst (pc := 123) (v := 1) dX3_takeToken_123 (by decide) ?_
                  refine v_zret (pc := 124) dX3_takeToken_124 rfl rfl ⟨rfl, rfl⟩ (Rt.i2 ?_ ?_)
                  · skip
                    have hrl : run qL by_ tl p = p2 := by rw [h_84_1]; exact run_stop (fun q => by omega)
                    have hO : tkO by_ tl nx = true := by unfold tkO; rw [hS, if_neg (show ¬ tl ≤ p by omega), if_pos (show qL (by_ p) = true from decide_eq_true c_76)]
                    rw [hO]; rfl
                  · skip
                    have hrl : run qL by_ tl p = p2 := by rw [h_84_1]; exact run_stop (fun q => by omega)
                    have hO : tkO by_ tl nx = true := by unfold tkO; rw [hS, if_neg (show ¬ tl ≤ p by omega), if_pos (show qL (by_ p) = true from decide_eq_true c_76)]
                    have hN : tkN by_ tl nx = p2 := by unfold tkN; rw [hS, if_neg (show ¬ tl ≤ p by omega), if_pos (show qL (by_ p) = true from decide_eq_true c_76), hrl]
                    have hK : tkK by_ tl nx = 1 := by unfold tkK; rw [hS, if_neg (show ¬ tl ≤ p by omega), if_pos (show qL (by_ p) = true from decide_eq_true c_76)]
                    have hV : tkV by_ tl nx tv = tv := by unfold tkV; rw [hS, if_neg (show ¬ tl ≤ p by omega), if_pos (show qL (by_ p) = true from decide_eq_true c_76)]
                    rw [hO, hN, hK, hV, hS]; rfl
                · skip
                  refine v_aload_n (pc := 95) 0 dX3_takeToken_95 rfl rfl ?_
                  refine gf_184 (pc := 96) 0 dX3_takeToken_96 rfl rfl ?_
                  refine v_aload_n (pc := 99) 0 dX3_takeToken_99 rfl rfl ?_
                  refine gf_185 (pc := 100) 0 dX3_takeToken_100 rfl rfl ?_
                  refine v_baldN (pc := 103) 1 0 (p2) dX3_takeToken_103 rfl rfl rfl (by omega) (by decide) ?_
                  refine v_callS (pc := 104) (rest := []) [] lk_305 (c_X3_isLetter l E (by_ p2)) dX3_takeToken_104 rfl rfl (Nat.le_of_ble_eq_true rfl) (by decide) (by decide) rfl (Rt.len rfl) (Rt.go ?_)
                  refine v_w (ws' := [(t0, .inr (3, [.ref b0, .int (nI tl), .int (tf), .int (tp), .ref tb, .int (nI p2), .int (1), .int (nI p), .int (tv), .int (th), .int (tN), .int (tO), .int (tpd)])), (tb, .inl (E.2.1 0, 160, .inl (by_)))]) rfl ?_
                  refine v_st (st' := [.int (if ¬ (by_ p2) < 97 ∧ ¬ 122 < (by_ p2) then 1 else 0)]) rfl ?_
                  refine v_ifB_eq (pc := 107) 123 dX3_takeToken_107 (by decide) (fun c_107 => ?_) (fun c_107 => ?_)
                  · skip
                    refine v_iconst (pc := 123) (v := 1) dX3_takeToken_123 (by decide) ?_
                    refine v_zret (pc := 124) dX3_takeToken_124 rfl rfl ⟨rfl, rfl⟩ (Rt.i2 ?_ ?_)
                    · skip
                      have hrl : run qL by_ tl p = p2 := by rw [h_84_1]; exact run_stop (fun q => c_107 (by simpa [qL] using q.2))
                      have hO : tkO by_ tl nx = true := by unfold tkO; rw [hS, if_neg (show ¬ tl ≤ p by omega), if_pos (show qL (by_ p) = true from decide_eq_true c_76)]
                      rw [hO]; rfl
                    · skip
                      have hrl : run qL by_ tl p = p2 := by rw [h_84_1]; exact run_stop (fun q => c_107 (by simpa [qL] using q.2))
                      have hO : tkO by_ tl nx = true := by unfold tkO; rw [hS, if_neg (show ¬ tl ≤ p by omega), if_pos (show qL (by_ p) = true from decide_eq_true c_76)]
                      have hN : tkN by_ tl nx = p2 := by unfold tkN; rw [hS, if_neg (show ¬ tl ≤ p by omega), if_pos (show qL (by_ p) = true from decide_eq_true c_76), hrl]
                      have hK : tkK by_ tl nx = 1 := by unfold tkK; rw [hS, if_neg (show ¬ tl ≤ p by omega), if_pos (show qL (by_ p) = true from decide_eq_true c_76)]
                      have hV : tkV by_ tl nx tv = tv := by unfold tkV; rw [hS, if_neg (show ¬ tl ≤ p by omega), if_pos (show qL (by_ p) = true from decide_eq_true c_76)]
                      rw [hO, hN, hK, hV, hS]; rfl
                  · skip
                    refine v_aload_n (pc := 110) 0 dX3_takeToken_110 rfl rfl ?_
                    refine v_dup (pc := 111) dX3_takeToken_111 rfl ?_
                    refine gf_185 (pc := 112) 0 dX3_takeToken_112 rfl rfl ?_
                    refine v_iconst (pc := 115) (v := 1) dX3_takeToken_115 (by decide) ?_
                    refine v_iadd (pc := 116) dX3_takeToken_116 ?_
                    refine v_st (st' := [.int (nI (p2 + 1)), .ref t0]) (by rw [nI_1]) ?_
                    refine pf_185 (pc := 117) (ws' := [(t0, .inr (3, [.ref b0, .int (nI tl), .int (tf), .int (tp), .ref tb, .int (nI (p2 + 1)), .int (1), .int (nI p), .int (tv), .int (th), .int (tN), .int (tO), .int (tpd)])), (tb, .inl (E.2.1 0, 160, .inl (by_)))]) 0 dX3_takeToken_117 rfl rfl rfl (Nat.le_of_ble_eq_true rfl) rfl ?_
                    refine v_goto (pc := 120) 84 dX3_takeToken_120 (by decide) ?_
                    refine v_lv (lv' := [(0, .ref t0)]) [0] rfl ?_
                    refine ih_84 (p2 + 1) (by omega) ?_ ?_
                    · omega
                    · rw [h_84_1]; exact run_step (by omega) (decide_eq_true c_107)
            refine v_lv (lv' := [(0, .ref t0)]) [0] rfl ?_
            refine loop_84 ((tl - p) + 1) p (Nat.lt_succ_self _) ?_ ?_
            · omega
            · rfl
        · skip
          refine v_aload_n (pc := 57) 0 dX3_takeToken_57 rfl rfl ?_
          refine v_iconst (pc := 58) (v := 0) dX3_takeToken_58 (by decide) ?_
          refine pf_186 (pc := 59) (ws' := [(t0, .inr (3, [.ref b0, .int (nI tl), .int (tf), .int (tp), .ref tb, .int (nI p), .int (0), .int (nI p), .int (tv), .int (th), .int (tN), .int (tO), .int (tpd)])), (tb, .inl (E.2.1 0, 160, .inl (by_)))]) 0 dX3_takeToken_59 rfl rfl rfl (Nat.le_of_ble_eq_true rfl) rfl ?_
          refine v_iconst (pc := 62) (v := 1) dX3_takeToken_62 (by decide) ?_
          refine v_zret (pc := 63) dX3_takeToken_63 rfl rfl ⟨rfl, rfl⟩ (Rt.i2 ?_ ?_)
          · skip
            have hO : tkO by_ tl nx = true := by unfold tkO; rw [hS, if_pos (show tl ≤ p from c_54)]
            rw [hO]; rfl
          · skip
            have hO : tkO by_ tl nx = true := by unfold tkO; rw [hS, if_pos (show tl ≤ p from c_54)]
            have hN : tkN by_ tl nx = p := by unfold tkN; rw [hS, if_pos (show tl ≤ p from c_54)]
            have hK : tkK by_ tl nx = 0 := by unfold tkK; rw [hS, if_pos (show tl ≤ p from c_54)]
            have hV : tkV by_ tl nx tv = tv := by unfold tkV; rw [hS, if_pos (show tl ≤ p from c_54)]
            rw [hO, hN, hK, hV, hS]; rfl
      · skip
        refine v_aload_n (pc := 11) 0 dX3_takeToken_11 rfl rfl ?_
        refine gf_184 (pc := 12) 0 dX3_takeToken_12 rfl rfl ?_
        refine v_aload_n (pc := 15) 0 dX3_takeToken_15 rfl rfl ?_
        refine gf_185 (pc := 16) 0 dX3_takeToken_16 rfl rfl ?_
        refine v_baldN (pc := 19) 1 0 (p) dX3_takeToken_19 rfl rfl rfl (by omega) (by decide) ?_
        refine v_bipush (pc := 20) (v := 32) dX3_takeToken_20 (by decide) ?_
        refine v_icmp_ne (pc := 22) 38 dX3_takeToken_22 (by decide) (fun c_22 => ?_) (fun c_22 => ?_)
        · skip
          have hS : tkS by_ tl nx = p := by unfold tkS; rw [h_0_1]; exact run_stop (fun q => c_22 (by simpa [qB] using q.2))
          refine v_aload_n (pc := 38) 0 dX3_takeToken_38 rfl rfl ?_
          refine v_aload_n (pc := 39) 0 dX3_takeToken_39 rfl rfl ?_
          refine gf_185 (pc := 40) 0 dX3_takeToken_40 rfl rfl ?_
          refine pf_187 (pc := 43) (ws' := [(t0, .inr (3, [.ref b0, .int (nI tl), .int (tf), .int (tp), .ref tb, .int (nI p), .int (tk), .int (nI p), .int (tv), .int (th), .int (tN), .int (tO), .int (tpd)])), (tb, .inl (E.2.1 0, 160, .inl (by_)))]) 0 dX3_takeToken_43 rfl rfl rfl (Nat.le_of_ble_eq_true rfl) rfl ?_
          refine v_aload_n (pc := 46) 0 dX3_takeToken_46 rfl rfl ?_
          refine gf_185 (pc := 47) 0 dX3_takeToken_47 rfl rfl ?_
          refine v_aload_n (pc := 50) 0 dX3_takeToken_50 rfl rfl ?_
          refine gf_178 (pc := 51) 0 dX3_takeToken_51 rfl rfl ?_
          refine v_cmpN_lt (pc := 54) (a := p) (b := tl) 64 dX3_takeToken_54 (by decide) (by omega) (by omega) (fun c_54 => ?_) (fun c_54 => ?_)
          · skip
            refine v_aload_n (pc := 64) 0 dX3_takeToken_64 rfl rfl ?_
            refine gf_184 (pc := 65) 0 dX3_takeToken_65 rfl rfl ?_
            refine v_aload_n (pc := 68) 0 dX3_takeToken_68 rfl rfl ?_
            refine gf_185 (pc := 69) 0 dX3_takeToken_69 rfl rfl ?_
            refine v_baldN (pc := 72) 1 0 (p) dX3_takeToken_72 rfl rfl rfl (by omega) (by decide) ?_
            refine v_callS (pc := 73) (rest := []) [] lk_305 (c_X3_isLetter l E (by_ p)) dX3_takeToken_73 rfl rfl (Nat.le_of_ble_eq_true rfl) (by decide) (by decide) rfl (Rt.len rfl) (Rt.go ?_)
            refine v_w (ws' := [(t0, .inr (3, [.ref b0, .int (nI tl), .int (tf), .int (tp), .ref tb, .int (nI p), .int (tk), .int (nI p), .int (tv), .int (th), .int (tN), .int (tO), .int (tpd)])), (tb, .inl (E.2.1 0, 160, .inl (by_)))]) rfl ?_
            refine v_st (st' := [.int (if ¬ (by_ p) < 97 ∧ ¬ 122 < (by_ p) then 1 else 0)]) rfl ?_
            refine v_ifB_eq (pc := 76) 125 dX3_takeToken_76 (by decide) (fun c_76 => ?_) (fun c_76 => ?_)
            · skip
              refine v_aload_n (pc := 125) 0 dX3_takeToken_125 rfl rfl ?_
              refine gf_184 (pc := 126) 0 dX3_takeToken_126 rfl rfl ?_
              refine v_aload_n (pc := 129) 0 dX3_takeToken_129 rfl rfl ?_
              refine gf_185 (pc := 130) 0 dX3_takeToken_130 rfl rfl ?_
              refine v_baldN (pc := 133) 1 0 (p) dX3_takeToken_133 rfl rfl rfl (by omega) (by decide) ?_
              refine v_callS (pc := 134) (rest := []) [] lk_308 (c_X3_isFigure l E (by_ p)) dX3_takeToken_134 rfl rfl (Nat.le_of_ble_eq_true rfl) (by decide) (by decide) rfl (Rt.len rfl) (Rt.go ?_)
              refine v_w (ws' := [(t0, .inr (3, [.ref b0, .int (nI tl), .int (tf), .int (tp), .ref tb, .int (nI p), .int (tk), .int (nI p), .int (tv), .int (th), .int (tN), .int (tO), .int (tpd)])), (tb, .inl (E.2.1 0, 160, .inl (by_)))]) rfl ?_
              refine v_st (st' := [.int (if ¬ (by_ p) < 48 ∧ ¬ 57 < (by_ p) then 1 else 0)]) rfl ?_
              refine v_ifB_eq (pc := 137) 244 dX3_takeToken_137 (by decide) (fun c_137 => ?_) (fun c_137 => ?_)
              · skip
                refine v_aload_n (pc := 244) 0 dX3_takeToken_244 rfl rfl ?_
                refine v_iconst (pc := 245) (v := 3) dX3_takeToken_245 (by decide) ?_
                refine pf_186 (pc := 246) (ws' := [(t0, .inr (3, [.ref b0, .int (nI tl), .int (tf), .int (tp), .ref tb, .int (nI p), .int (3), .int (nI p), .int (tv), .int (th), .int (tN), .int (tO), .int (tpd)])), (tb, .inl (E.2.1 0, 160, .inl (by_)))]) 0 dX3_takeToken_246 rfl rfl rfl (Nat.le_of_ble_eq_true rfl) rfl ?_
                refine v_aload_n (pc := 249) 0 dX3_takeToken_249 rfl rfl ?_
                refine v_dup (pc := 250) dX3_takeToken_250 rfl ?_
                refine gf_185 (pc := 251) 0 dX3_takeToken_251 rfl rfl ?_
                refine v_iconst (pc := 254) (v := 1) dX3_takeToken_254 (by decide) ?_
                refine v_iadd (pc := 255) dX3_takeToken_255 ?_
                refine v_st (st' := [.int (nI (p + 1)), .ref t0]) (by rw [nI_1]) ?_
                refine pf_185 (pc := 256) (ws' := [(t0, .inr (3, [.ref b0, .int (nI tl), .int (tf), .int (tp), .ref tb, .int (nI (p + 1)), .int (3), .int (nI p), .int (tv), .int (th), .int (tN), .int (tO), .int (tpd)])), (tb, .inl (E.2.1 0, 160, .inl (by_)))]) 0 dX3_takeToken_256 rfl rfl rfl (Nat.le_of_ble_eq_true rfl) rfl ?_
                refine v_aload_n (pc := 259) 0 dX3_takeToken_259 rfl rfl ?_
                refine gf_184 (pc := 260) 0 dX3_takeToken_260 rfl rfl ?_
                refine v_aload_n (pc := 263) 0 dX3_takeToken_263 rfl rfl ?_
                refine gf_187 (pc := 264) 0 dX3_takeToken_264 rfl rfl ?_
                refine v_baldN (pc := 267) 1 0 (p) dX3_takeToken_267 rfl rfl rfl (by omega) (by decide) ?_
                refine v_bipush (pc := 268) (v := 59) dX3_takeToken_268 (by decide) ?_
                refine v_icmp_eq (pc := 270) 285 dX3_takeToken_270 (by decide) (fun c_270 => ?_) (fun c_270 => ?_)
                · skip
                  refine v_iconst (pc := 285) (v := 1) dX3_takeToken_285 (by decide) ?_
                  refine v_goto (pc := 286) 290 dX3_takeToken_286 (by decide) ?_
                  refine v_zret (pc := 290) dX3_takeToken_290 rfl rfl ⟨rfl, rfl⟩ (Rt.i2 ?_ ?_)
                  · skip
                    have hO : tkO by_ tl nx = true := by unfold tkO; rw [hS, if_neg (show ¬ tl ≤ p by omega), if_neg (show ¬ qL (by_ p) = true by simpa [qL] using c_76), if_neg (show ¬ qD (by_ p) = true by simpa [qD] using c_137)]; rw [decide_eq_true c_270]
                    rw [hO]; rfl
                  · skip
                    have hO : tkO by_ tl nx = true := by unfold tkO; rw [hS, if_neg (show ¬ tl ≤ p by omega), if_neg (show ¬ qL (by_ p) = true by simpa [qL] using c_76), if_neg (show ¬ qD (by_ p) = true by simpa [qD] using c_137)]; rw [decide_eq_true c_270]
                    have hN : tkN by_ tl nx = p + 1 := by unfold tkN; rw [hS, if_neg (show ¬ tl ≤ p by omega), if_neg (show ¬ qL (by_ p) = true by simpa [qL] using c_76), if_neg (show ¬ qD (by_ p) = true by simpa [qD] using c_137)]
                    have hK : tkK by_ tl nx = 3 := by unfold tkK; rw [hS, if_neg (show ¬ tl ≤ p by omega), if_neg (show ¬ qL (by_ p) = true by simpa [qL] using c_76), if_neg (show ¬ qD (by_ p) = true by simpa [qD] using c_137)]
                    have hV : tkV by_ tl nx tv = tv := by unfold tkV; rw [hS, if_neg (show ¬ tl ≤ p by omega), if_neg (show ¬ qL (by_ p) = true by simpa [qL] using c_76), if_neg (show ¬ qD (by_ p) = true by simpa [qD] using c_137)]
                    rw [hO, hN, hK, hV, hS]; rfl
                · skip
                  refine v_aload_n (pc := 273) 0 dX3_takeToken_273 rfl rfl ?_
                  refine v_iconst (pc := 274) (v := 1) dX3_takeToken_274 (by decide) ?_
                  refine v_aload_n (pc := 275) 0 dX3_takeToken_275 rfl rfl ?_
                  refine gf_187 (pc := 276) 0 dX3_takeToken_276 rfl rfl ?_
                  refine v_callV (pc := 279) (rest := []) [0] 0 lk_311 (c_X3_fail l E t0 b0 tb tl (p + 1) p tf tp 3 tv th tN tO tpd 1 (nI p)) dX3_takeToken_279 rfl rfl (Nat.le_of_ble_eq_true rfl) (by decide) rfl rfl rfl (by decide) rfl (Rt.len rfl) (Rt.go ?_)
                  refine v_w (ws' := [(t0, .inr (3, [.ref b0, .int (nI tl), .int (1), .int ((nI p)), .ref tb, .int (nI (p + 1)), .int (3), .int (nI p), .int (tv), .int (th), .int (tN), .int (tO), .int (tpd)])), (tb, .inl (E.2.1 0, 160, .inl (by_)))]) rfl ?_
                  refine v_st (st' := [.int (0)]) rfl ?_
                  refine v_if_eq (pc := 282) 289 dX3_takeToken_282 (by decide) (fun _ => ?_) (fun c => absurd c (by decide))
                  refine v_iconst (pc := 289) (v := 0) dX3_takeToken_289 (by decide) ?_
                  refine v_zret (pc := 290) dX3_takeToken_290 rfl rfl ⟨rfl, rfl⟩ (Rt.i2 ?_ ?_)
                  · skip
                    have hO : tkO by_ tl nx = false := by unfold tkO; rw [hS, if_neg (show ¬ tl ≤ p by omega), if_neg (show ¬ qL (by_ p) = true by simpa [qL] using c_76), if_neg (show ¬ qD (by_ p) = true by simpa [qD] using c_137)]; rw [decide_eq_false c_270]
                    rw [hO]; rfl
                  · skip
                    have hO : tkO by_ tl nx = false := by unfold tkO; rw [hS, if_neg (show ¬ tl ≤ p by omega), if_neg (show ¬ qL (by_ p) = true by simpa [qL] using c_76), if_neg (show ¬ qD (by_ p) = true by simpa [qD] using c_137)]; rw [decide_eq_false c_270]
                    have hN : tkN by_ tl nx = p + 1 := by unfold tkN; rw [hS, if_neg (show ¬ tl ≤ p by omega), if_neg (show ¬ qL (by_ p) = true by simpa [qL] using c_76), if_neg (show ¬ qD (by_ p) = true by simpa [qD] using c_137)]
                    have hK : tkK by_ tl nx = 3 := by unfold tkK; rw [hS, if_neg (show ¬ tl ≤ p by omega), if_neg (show ¬ qL (by_ p) = true by simpa [qL] using c_76), if_neg (show ¬ qD (by_ p) = true by simpa [qD] using c_137)]
                    have hV : tkV by_ tl nx tv = tv := by unfold tkV; rw [hS, if_neg (show ¬ tl ≤ p by omega), if_neg (show ¬ qL (by_ p) = true by simpa [qL] using c_76), if_neg (show ¬ qD (by_ p) = true by simpa [qD] using c_137)]
                    rw [hO, hN, hK, hV, hS]; rfl
              · skip
                refine v_aload_n (pc := 140) 0 dX3_takeToken_140 rfl rfl ?_
                refine v_iconst (pc := 141) (v := 2) dX3_takeToken_141 (by decide) ?_
                refine pf_186 (pc := 142) (ws' := [(t0, .inr (3, [.ref b0, .int (nI tl), .int (tf), .int (tp), .ref tb, .int (nI p), .int (2), .int (nI p), .int (tv), .int (th), .int (tN), .int (tO), .int (tpd)])), (tb, .inl (E.2.1 0, 160, .inl (by_)))]) 0 dX3_takeToken_142 rfl rfl rfl (Nat.le_of_ble_eq_true rfl) rfl ?_
                refine v_aload_n (pc := 145) 0 dX3_takeToken_145 rfl rfl ?_
                refine v_iconst (pc := 146) (v := 0) dX3_takeToken_146 (by decide) ?_
                refine pf_188 (pc := 147) (ws' := [(t0, .inr (3, [.ref b0, .int (nI tl), .int (tf), .int (tp), .ref tb, .int (nI p), .int (2), .int (nI p), .int (0), .int (th), .int (tN), .int (tO), .int (tpd)])), (tb, .inl (E.2.1 0, 160, .inl (by_)))]) 0 dX3_takeToken_147 rfl rfl rfl (Nat.le_of_ble_eq_true rfl) rfl ?_
                have loop_150 : ∀ (D_150 : Nat) (p3 : Nat) (vv : Int32), tl - p3 < D_150 → (p ≤ p3 ∧ p3 ≤ tl) → (run qD by_ tl p = run qD by_ tl p3) → (vv = dgV by_ p (p3 - p)) → V l E RX3 cX3_takeToken 1 (Option.some FieldType.boolean) "takeToken" ({ frames := 1, cells := 0, slots := 0, locals := 22 }) [(t0, .inr (3, [.ref b0, .int (nI tl), .int (tf), .int (tp), .ref tb, .int (nI nx), .int (tk), .int (nI sa), .int (tv), .int (th), .int (tN), .int (tO), .int (tpd)])), (tb, .inl (E.2.1 0, 160, .inl (by_)))] 0 0 (Rt (some (.int (if tkO by_ tl nx = true then 1 else 0))) [(t0, .inr (3, [.ref b0, .int (nI tl), .int (if tkO by_ tl nx = true then tf else 1), .int (if tkO by_ tl nx = true then tp else nI (tkS by_ tl nx)), .ref tb, .int (nI (tkN by_ tl nx)), .int (tkK by_ tl nx), .int (nI (tkS by_ tl nx)), .int (tkV by_ tl nx tv), .int (th), .int (tN), .int (tO), .int (tpd)])), (tb, .inl (E.2.1 0, 160, .inl (by_)))]) 0 0 150 [(0, .ref t0)] [] [(t0, .inr (3, [.ref b0, .int (nI tl), .int (tf), .int (tp), .ref tb, .int (nI p3), .int (2), .int (nI p), .int (vv), .int (th), .int (tN), .int (tO), .int (tpd)])), (tb, .inl (E.2.1 0, 160, .inl (by_)))] := by
                  intro D_150
                  induction D_150 with
                  | zero => intro p3 vv h; exact absurd h (Nat.not_lt_zero _)
                  | succ D_150 ih_150 =>
                    intro p3 vv hmu_150 h_150_0 h_150_1 h_150_2
                    refine v_aload_n (pc := 150) 0 dX3_takeToken_150 rfl rfl ?_
                    refine gf_185 (pc := 151) 0 dX3_takeToken_151 rfl rfl ?_
                    refine v_aload_n (pc := 154) 0 dX3_takeToken_154 rfl rfl ?_
                    refine gf_178 (pc := 155) 0 dX3_takeToken_155 rfl rfl ?_
                    refine v_cmpN_ge (pc := 158) (a := p3) (b := tl) 213 dX3_takeToken_158 (by decide) (by omega) (by omega) (fun c_158 => ?_) (fun c_158 => ?_)
                    · skip
                      refine v_aload_n (pc := 213) 0 dX3_takeToken_213 rfl rfl ?_
                      refine gf_185 (pc := 214) 0 dX3_takeToken_214 rfl rfl ?_
                      refine v_aload_n (pc := 217) 0 dX3_takeToken_217 rfl rfl ?_
                      refine gf_187 (pc := 218) 0 dX3_takeToken_218 rfl rfl ?_
                      refine v_isub (pc := 221) dX3_takeToken_221 ?_
                      refine v_st (st' := [.int (nI (p3 - p))]) (by rw [pk_sub (by omega)]) ?_
                      refine v_iconst (pc := 222) (v := 2) dX3_takeToken_222 (by decide) ?_
                      refine v_cmpN_le (pc := 223) (a := p3 - p) (b := 2) 238 dX3_takeToken_223 (by decide) (by omega) (by omega) (fun c_223 => ?_) (fun c_223 => ?_)
                      · skip
                        refine v_iconst (pc := 238) (v := 1) dX3_takeToken_238 (by decide) ?_
                        refine v_goto (pc := 239) 243 dX3_takeToken_239 (by decide) ?_
                        refine v_zret (pc := 243) dX3_takeToken_243 rfl rfl ⟨rfl, rfl⟩ (Rt.i2 ?_ ?_)
                        · skip
                          have hrd : run qD by_ tl p = p3 := by rw [h_150_1]; exact run_stop (fun q => by omega)
                          have hO : tkO by_ tl nx = true := by unfold tkO; rw [hS, if_neg (show ¬ tl ≤ p by omega), if_neg (show ¬ qL (by_ p) = true by simpa [qL] using c_76), if_pos (show qD (by_ p) = true from decide_eq_true c_137), hrd]; rw [decide_eq_true (show p3 - p ≤ 2 by omega)]
                          rw [hO]; rfl
                        · skip
                          have hrd : run qD by_ tl p = p3 := by rw [h_150_1]; exact run_stop (fun q => by omega)
                          have hO : tkO by_ tl nx = true := by unfold tkO; rw [hS, if_neg (show ¬ tl ≤ p by omega), if_neg (show ¬ qL (by_ p) = true by simpa [qL] using c_76), if_pos (show qD (by_ p) = true from decide_eq_true c_137), hrd]; rw [decide_eq_true (show p3 - p ≤ 2 by omega)]
                          have hN : tkN by_ tl nx = p3 := by unfold tkN; rw [hS, if_neg (show ¬ tl ≤ p by omega), if_neg (show ¬ qL (by_ p) = true by simpa [qL] using c_76), if_pos (show qD (by_ p) = true from decide_eq_true c_137), hrd]
                          have hK : tkK by_ tl nx = 2 := by unfold tkK; rw [hS, if_neg (show ¬ tl ≤ p by omega), if_neg (show ¬ qL (by_ p) = true by simpa [qL] using c_76), if_pos (show qD (by_ p) = true from decide_eq_true c_137)]
                          have hV : tkV by_ tl nx tv = vv := by unfold tkV; rw [hS, if_neg (show ¬ tl ≤ p by omega), if_neg (show ¬ qL (by_ p) = true by simpa [qL] using c_76), if_pos (show qD (by_ p) = true from decide_eq_true c_137), hrd]; exact h_150_2.symm
                          rw [hO, hN, hK, hV, hS]; rfl
                      · skip
                        refine v_aload_n (pc := 226) 0 dX3_takeToken_226 rfl rfl ?_
                        refine v_iconst (pc := 227) (v := 1) dX3_takeToken_227 (by decide) ?_
                        refine v_aload_n (pc := 228) 0 dX3_takeToken_228 rfl rfl ?_
                        refine gf_187 (pc := 229) 0 dX3_takeToken_229 rfl rfl ?_
                        refine v_callV (pc := 232) (rest := []) [0] 0 lk_311 (c_X3_fail l E t0 b0 tb tl p3 p tf tp 2 vv th tN tO tpd 1 (nI p)) dX3_takeToken_232 rfl rfl (Nat.le_of_ble_eq_true rfl) (by decide) rfl rfl rfl (by decide) rfl (Rt.len rfl) (Rt.go ?_)
                        refine v_w (ws' := [(t0, .inr (3, [.ref b0, .int (nI tl), .int (1), .int ((nI p)), .ref tb, .int (nI p3), .int (2), .int (nI p), .int (vv), .int (th), .int (tN), .int (tO), .int (tpd)])), (tb, .inl (E.2.1 0, 160, .inl (by_)))]) rfl ?_
                        refine v_st (st' := [.int (0)]) rfl ?_
                        refine v_if_eq (pc := 235) 242 dX3_takeToken_235 (by decide) (fun _ => ?_) (fun c => absurd c (by decide))
                        refine v_iconst (pc := 242) (v := 0) dX3_takeToken_242 (by decide) ?_
                        refine v_zret (pc := 243) dX3_takeToken_243 rfl rfl ⟨rfl, rfl⟩ (Rt.i2 ?_ ?_)
                        · skip
                          have hrd : run qD by_ tl p = p3 := by rw [h_150_1]; exact run_stop (fun q => by omega)
                          have hO : tkO by_ tl nx = false := by unfold tkO; rw [hS, if_neg (show ¬ tl ≤ p by omega), if_neg (show ¬ qL (by_ p) = true by simpa [qL] using c_76), if_pos (show qD (by_ p) = true from decide_eq_true c_137), hrd]; rw [decide_eq_false (show ¬ p3 - p ≤ 2 by omega)]
                          rw [hO]; rfl
                        · skip
                          have hrd : run qD by_ tl p = p3 := by rw [h_150_1]; exact run_stop (fun q => by omega)
                          have hO : tkO by_ tl nx = false := by unfold tkO; rw [hS, if_neg (show ¬ tl ≤ p by omega), if_neg (show ¬ qL (by_ p) = true by simpa [qL] using c_76), if_pos (show qD (by_ p) = true from decide_eq_true c_137), hrd]; rw [decide_eq_false (show ¬ p3 - p ≤ 2 by omega)]
                          have hN : tkN by_ tl nx = p3 := by unfold tkN; rw [hS, if_neg (show ¬ tl ≤ p by omega), if_neg (show ¬ qL (by_ p) = true by simpa [qL] using c_76), if_pos (show qD (by_ p) = true from decide_eq_true c_137), hrd]
                          have hK : tkK by_ tl nx = 2 := by unfold tkK; rw [hS, if_neg (show ¬ tl ≤ p by omega), if_neg (show ¬ qL (by_ p) = true by simpa [qL] using c_76), if_pos (show qD (by_ p) = true from decide_eq_true c_137)]
                          have hV : tkV by_ tl nx tv = vv := by unfold tkV; rw [hS, if_neg (show ¬ tl ≤ p by omega), if_neg (show ¬ qL (by_ p) = true by simpa [qL] using c_76), if_pos (show qD (by_ p) = true from decide_eq_true c_137), hrd]; exact h_150_2.symm
                          rw [hO, hN, hK, hV, hS]; rfl
                    · skip
                      refine v_aload_n (pc := 161) 0 dX3_takeToken_161 rfl rfl ?_
                      refine gf_184 (pc := 162) 0 dX3_takeToken_162 rfl rfl ?_
                      refine v_aload_n (pc := 165) 0 dX3_takeToken_165 rfl rfl ?_
                      refine gf_185 (pc := 166) 0 dX3_takeToken_166 rfl rfl ?_
                      refine v_baldN (pc := 169) 1 0 (p3) dX3_takeToken_169 rfl rfl rfl (by omega) (by decide) ?_
                      refine v_callS (pc := 170) (rest := []) [] lk_308 (c_X3_isFigure l E (by_ p3)) dX3_takeToken_170 rfl rfl (Nat.le_of_ble_eq_true rfl) (by decide) (by decide) rfl (Rt.len rfl) (Rt.go ?_)
                      refine v_w (ws' := [(t0, .inr (3, [.ref b0, .int (nI tl), .int (tf), .int (tp), .ref tb, .int (nI p3), .int (2), .int (nI p), .int (vv), .int (th), .int (tN), .int (tO), .int (tpd)])), (tb, .inl (E.2.1 0, 160, .inl (by_)))]) rfl ?_
                      refine v_st (st' := [.int (if ¬ (by_ p3) < 48 ∧ ¬ 57 < (by_ p3) then 1 else 0)]) rfl ?_
                      refine v_ifB_eq (pc := 173) 213 dX3_takeToken_173 (by decide) (fun c_173 => ?_) (fun c_173 => ?_)
                      · skip
                        refine v_aload_n (pc := 213) 0 dX3_takeToken_213 rfl rfl ?_
                        refine gf_185 (pc := 214) 0 dX3_takeToken_214 rfl rfl ?_
                        refine v_aload_n (pc := 217) 0 dX3_takeToken_217 rfl rfl ?_
                        refine gf_187 (pc := 218) 0 dX3_takeToken_218 rfl rfl ?_
                        refine v_isub (pc := 221) dX3_takeToken_221 ?_
                        refine v_st (st' := [.int (nI (p3 - p))]) (by rw [pk_sub (by omega)]) ?_
                        refine v_iconst (pc := 222) (v := 2) dX3_takeToken_222 (by decide) ?_
                        refine v_cmpN_le (pc := 223) (a := p3 - p) (b := 2) 238 dX3_takeToken_223 (by decide) (by omega) (by omega) (fun c_223 => ?_) (fun c_223 => ?_)
                        · skip
                          refine v_iconst (pc := 238) (v := 1) dX3_takeToken_238 (by decide) ?_
                          refine v_goto (pc := 239) 243 dX3_takeToken_239 (by decide) ?_
                          refine v_zret (pc := 243) dX3_takeToken_243 rfl rfl ⟨rfl, rfl⟩ (Rt.i2 ?_ ?_)
                          · skip
                            have hrd : run qD by_ tl p = p3 := by rw [h_150_1]; exact run_stop (fun q => c_173 (by simpa [qD] using q.2))
                            have hO : tkO by_ tl nx = true := by unfold tkO; rw [hS, if_neg (show ¬ tl ≤ p by omega), if_neg (show ¬ qL (by_ p) = true by simpa [qL] using c_76), if_pos (show qD (by_ p) = true from decide_eq_true c_137), hrd]; rw [decide_eq_true (show p3 - p ≤ 2 by omega)]
                            rw [hO]; rfl
                          · skip
                            have hrd : run qD by_ tl p = p3 := by rw [h_150_1]; exact run_stop (fun q => c_173 (by simpa [qD] using q.2))
                            have hO : tkO by_ tl nx = true := by unfold tkO; rw [hS, if_neg (show ¬ tl ≤ p by omega), if_neg (show ¬ qL (by_ p) = true by simpa [qL] using c_76), if_pos (show qD (by_ p) = true from decide_eq_true c_137), hrd]; rw [decide_eq_true (show p3 - p ≤ 2 by omega)]
                            have hN : tkN by_ tl nx = p3 := by unfold tkN; rw [hS, if_neg (show ¬ tl ≤ p by omega), if_neg (show ¬ qL (by_ p) = true by simpa [qL] using c_76), if_pos (show qD (by_ p) = true from decide_eq_true c_137), hrd]
                            have hK : tkK by_ tl nx = 2 := by unfold tkK; rw [hS, if_neg (show ¬ tl ≤ p by omega), if_neg (show ¬ qL (by_ p) = true by simpa [qL] using c_76), if_pos (show qD (by_ p) = true from decide_eq_true c_137)]
                            have hV : tkV by_ tl nx tv = vv := by unfold tkV; rw [hS, if_neg (show ¬ tl ≤ p by omega), if_neg (show ¬ qL (by_ p) = true by simpa [qL] using c_76), if_pos (show qD (by_ p) = true from decide_eq_true c_137), hrd]; exact h_150_2.symm
                            rw [hO, hN, hK, hV, hS]; rfl
                        · skip
                          refine v_aload_n (pc := 226) 0 dX3_takeToken_226 rfl rfl ?_
                          refine v_iconst (pc := 227) (v := 1) dX3_takeToken_227 (by decide) ?_
                          refine v_aload_n (pc := 228) 0 dX3_takeToken_228 rfl rfl ?_
                          refine gf_187 (pc := 229) 0 dX3_takeToken_229 rfl rfl ?_
                          refine v_callV (pc := 232) (rest := []) [0] 0 lk_311 (c_X3_fail l E t0 b0 tb tl p3 p tf tp 2 vv th tN tO tpd 1 (nI p)) dX3_takeToken_232 rfl rfl (Nat.le_of_ble_eq_true rfl) (by decide) rfl rfl rfl (by decide) rfl (Rt.len rfl) (Rt.go ?_)
                          refine v_w (ws' := [(t0, .inr (3, [.ref b0, .int (nI tl), .int (1), .int ((nI p)), .ref tb, .int (nI p3), .int (2), .int (nI p), .int (vv), .int (th), .int (tN), .int (tO), .int (tpd)])), (tb, .inl (E.2.1 0, 160, .inl (by_)))]) rfl ?_
                          refine v_st (st' := [.int (0)]) rfl ?_
                          refine v_if_eq (pc := 235) 242 dX3_takeToken_235 (by decide) (fun _ => ?_) (fun c => absurd c (by decide))
                          refine v_iconst (pc := 242) (v := 0) dX3_takeToken_242 (by decide) ?_
                          refine v_zret (pc := 243) dX3_takeToken_243 rfl rfl ⟨rfl, rfl⟩ (Rt.i2 ?_ ?_)
                          · skip
                            have hrd : run qD by_ tl p = p3 := by rw [h_150_1]; exact run_stop (fun q => c_173 (by simpa [qD] using q.2))
                            have hO : tkO by_ tl nx = false := by unfold tkO; rw [hS, if_neg (show ¬ tl ≤ p by omega), if_neg (show ¬ qL (by_ p) = true by simpa [qL] using c_76), if_pos (show qD (by_ p) = true from decide_eq_true c_137), hrd]; rw [decide_eq_false (show ¬ p3 - p ≤ 2 by omega)]
                            rw [hO]; rfl
                          · skip
                            have hrd : run qD by_ tl p = p3 := by rw [h_150_1]; exact run_stop (fun q => c_173 (by simpa [qD] using q.2))
                            have hO : tkO by_ tl nx = false := by unfold tkO; rw [hS, if_neg (show ¬ tl ≤ p by omega), if_neg (show ¬ qL (by_ p) = true by simpa [qL] using c_76), if_pos (show qD (by_ p) = true from decide_eq_true c_137), hrd]; rw [decide_eq_false (show ¬ p3 - p ≤ 2 by omega)]
                            have hN : tkN by_ tl nx = p3 := by unfold tkN; rw [hS, if_neg (show ¬ tl ≤ p by omega), if_neg (show ¬ qL (by_ p) = true by simpa [qL] using c_76), if_pos (show qD (by_ p) = true from decide_eq_true c_137), hrd]
                            have hK : tkK by_ tl nx = 2 := by unfold tkK; rw [hS, if_neg (show ¬ tl ≤ p by omega), if_neg (show ¬ qL (by_ p) = true by simpa [qL] using c_76), if_pos (show qD (by_ p) = true from decide_eq_true c_137)]
                            have hV : tkV by_ tl nx tv = vv := by unfold tkV; rw [hS, if_neg (show ¬ tl ≤ p by omega), if_neg (show ¬ qL (by_ p) = true by simpa [qL] using c_76), if_pos (show qD (by_ p) = true from decide_eq_true c_137), hrd]; exact h_150_2.symm
                            rw [hO, hN, hK, hV, hS]; rfl
                      · skip
                        refine v_aload_n (pc := 176) 0 dX3_takeToken_176 rfl rfl ?_
                        refine v_aload_n (pc := 177) 0 dX3_takeToken_177 rfl rfl ?_
                        refine gf_188 (pc := 178) 0 dX3_takeToken_178 rfl rfl ?_
                        refine v_bipush (pc := 181) (v := 10) dX3_takeToken_181 (by decide) ?_
                        refine v_imul (pc := 183) dX3_takeToken_183 ?_
                        refine v_aload_n (pc := 184) 0 dX3_takeToken_184 rfl rfl ?_
                        refine gf_184 (pc := 185) 0 dX3_takeToken_185 rfl rfl ?_
                        refine v_aload_n (pc := 188) 0 dX3_takeToken_188 rfl rfl ?_
                        refine gf_185 (pc := 189) 0 dX3_takeToken_189 rfl rfl ?_
                        refine v_baldN (pc := 192) 1 0 (p3) dX3_takeToken_192 rfl rfl rfl (by omega) (by decide) ?_
                        refine v_iadd (pc := 193) dX3_takeToken_193 ?_
                        refine v_bipush (pc := 194) (v := 48) dX3_takeToken_194 (by decide) ?_
                        refine v_isub (pc := 196) dX3_takeToken_196 ?_
                        refine pf_188 (pc := 197) (ws' := [(t0, .inr (3, [.ref b0, .int (nI tl), .int (tf), .int (tp), .ref tb, .int (nI p3), .int (2), .int (nI p), .int ((((vv) * (10)) + (by_ p3)) - (48)), .int (th), .int (tN), .int (tO), .int (tpd)])), (tb, .inl (E.2.1 0, 160, .inl (by_)))]) 0 dX3_takeToken_197 rfl rfl rfl (Nat.le_of_ble_eq_true rfl) rfl ?_
                        refine v_aload_n (pc := 200) 0 dX3_takeToken_200 rfl rfl ?_
                        refine v_dup (pc := 201) dX3_takeToken_201 rfl ?_
                        refine gf_185 (pc := 202) 0 dX3_takeToken_202 rfl rfl ?_
                        refine v_iconst (pc := 205) (v := 1) dX3_takeToken_205 (by decide) ?_
                        refine v_iadd (pc := 206) dX3_takeToken_206 ?_
                        refine v_st (st' := [.int (nI (p3 + 1)), .ref t0]) (by rw [nI_1]) ?_
                        refine pf_185 (pc := 207) (ws' := [(t0, .inr (3, [.ref b0, .int (nI tl), .int (tf), .int (tp), .ref tb, .int (nI (p3 + 1)), .int (2), .int (nI p), .int ((((vv) * (10)) + (by_ p3)) - (48)), .int (th), .int (tN), .int (tO), .int (tpd)])), (tb, .inl (E.2.1 0, 160, .inl (by_)))]) 0 dX3_takeToken_207 rfl rfl rfl (Nat.le_of_ble_eq_true rfl) rfl ?_
                        refine v_goto (pc := 210) 150 dX3_takeToken_210 (by decide) ?_
                        refine v_lv (lv' := [(0, .ref t0)]) [0] rfl ?_
                        refine ih_150 (p3 + 1) ((((vv) * (10)) + (by_ p3)) - (48)) (by omega) ?_ ?_ ?_
                        · omega
                        · rw [h_150_1]; exact run_step (by omega) (decide_eq_true c_173)
                        · rw [show p3 + 1 - p = (p3 - p) + 1 by omega, dgV, ← h_150_2, show p + (p3 - p) = p3 by omega]
                refine v_lv (lv' := [(0, .ref t0)]) [0] rfl ?_
                refine loop_150 ((tl - p) + 1) p 0 (Nat.lt_succ_self _) ?_ ?_ ?_
                · omega
                · rfl
                · rw [Nat.sub_self]; rfl
            · skip
              refine v_aload_n (pc := 79) 0 dX3_takeToken_79 rfl rfl ?_
              refine v_iconst (pc := 80) (v := 1) dX3_takeToken_80 (by decide) ?_
              refine pf_186 (pc := 81) (ws' := [(t0, .inr (3, [.ref b0, .int (nI tl), .int (tf), .int (tp), .ref tb, .int (nI p), .int (1), .int (nI p), .int (tv), .int (th), .int (tN), .int (tO), .int (tpd)])), (tb, .inl (E.2.1 0, 160, .inl (by_)))]) 0 dX3_takeToken_81 rfl rfl rfl (Nat.le_of_ble_eq_true rfl) rfl ?_
              have loop_84 : ∀ (D_84 : Nat) (p2 : Nat), tl - p2 < D_84 → (p ≤ p2 ∧ p2 ≤ tl) → (run qL by_ tl p = run qL by_ tl p2) → V l E RX3 cX3_takeToken 1 (Option.some FieldType.boolean) "takeToken" ({ frames := 1, cells := 0, slots := 0, locals := 22 }) [(t0, .inr (3, [.ref b0, .int (nI tl), .int (tf), .int (tp), .ref tb, .int (nI nx), .int (tk), .int (nI sa), .int (tv), .int (th), .int (tN), .int (tO), .int (tpd)])), (tb, .inl (E.2.1 0, 160, .inl (by_)))] 0 0 (Rt (some (.int (if tkO by_ tl nx = true then 1 else 0))) [(t0, .inr (3, [.ref b0, .int (nI tl), .int (if tkO by_ tl nx = true then tf else 1), .int (if tkO by_ tl nx = true then tp else nI (tkS by_ tl nx)), .ref tb, .int (nI (tkN by_ tl nx)), .int (tkK by_ tl nx), .int (nI (tkS by_ tl nx)), .int (tkV by_ tl nx tv), .int (th), .int (tN), .int (tO), .int (tpd)])), (tb, .inl (E.2.1 0, 160, .inl (by_)))]) 0 0 84 [(0, .ref t0)] [] [(t0, .inr (3, [.ref b0, .int (nI tl), .int (tf), .int (tp), .ref tb, .int (nI p2), .int (1), .int (nI p), .int (tv), .int (th), .int (tN), .int (tO), .int (tpd)])), (tb, .inl (E.2.1 0, 160, .inl (by_)))] := by
                intro D_84
                induction D_84 with
                | zero => intro p2 h; exact absurd h (Nat.not_lt_zero _)
                | succ D_84 ih_84 =>
                  intro p2 hmu_84 h_84_0 h_84_1
                  refine v_aload_n (pc := 84) 0 dX3_takeToken_84 rfl rfl ?_
                  refine gf_185 (pc := 85) 0 dX3_takeToken_85 rfl rfl ?_
                  refine v_aload_n (pc := 88) 0 dX3_takeToken_88 rfl rfl ?_
                  refine gf_178 (pc := 89) 0 dX3_takeToken_89 rfl rfl ?_
                  refine v_cmpN_ge (pc := 92) (a := p2) (b := tl) 123 dX3_takeToken_92 (by decide) (by omega) (by omega) (fun c_92 => ?_) (fun c_92 => ?_)
                  · skip
                    refine v_iconst (pc := 123) (v := 1) dX3_takeToken_123 (by decide) ?_
                    refine v_zret (pc := 124) dX3_takeToken_124 rfl rfl ⟨rfl, rfl⟩ (Rt.i2 ?_ ?_)
                    · skip
                      have hrl : run qL by_ tl p = p2 := by rw [h_84_1]; exact run_stop (fun q => by omega)
                      have hO : tkO by_ tl nx = true := by unfold tkO; rw [hS, if_neg (show ¬ tl ≤ p by omega), if_pos (show qL (by_ p) = true from decide_eq_true c_76)]
                      rw [hO]; rfl
                    · skip
                      have hrl : run qL by_ tl p = p2 := by rw [h_84_1]; exact run_stop (fun q => by omega)
                      have hO : tkO by_ tl nx = true := by unfold tkO; rw [hS, if_neg (show ¬ tl ≤ p by omega), if_pos (show qL (by_ p) = true from decide_eq_true c_76)]
                      have hN : tkN by_ tl nx = p2 := by unfold tkN; rw [hS, if_neg (show ¬ tl ≤ p by omega), if_pos (show qL (by_ p) = true from decide_eq_true c_76), hrl]
                      have hK : tkK by_ tl nx = 1 := by unfold tkK; rw [hS, if_neg (show ¬ tl ≤ p by omega), if_pos (show qL (by_ p) = true from decide_eq_true c_76)]
                      have hV : tkV by_ tl nx tv = tv := by unfold tkV; rw [hS, if_neg (show ¬ tl ≤ p by omega), if_pos (show qL (by_ p) = true from decide_eq_true c_76)]
                      rw [hO, hN, hK, hV, hS]; rfl
                  · skip
                    refine v_aload_n (pc := 95) 0 dX3_takeToken_95 rfl rfl ?_
                    refine gf_184 (pc := 96) 0 dX3_takeToken_96 rfl rfl ?_
                    refine v_aload_n (pc := 99) 0 dX3_takeToken_99 rfl rfl ?_
                    refine gf_185 (pc := 100) 0 dX3_takeToken_100 rfl rfl ?_
                    refine v_baldN (pc := 103) 1 0 (p2) dX3_takeToken_103 rfl rfl rfl (by omega) (by decide) ?_
                    refine v_callS (pc := 104) (rest := []) [] lk_305 (c_X3_isLetter l E (by_ p2)) dX3_takeToken_104 rfl rfl (Nat.le_of_ble_eq_true rfl) (by decide) (by decide) rfl (Rt.len rfl) (Rt.go ?_)
                    refine v_w (ws' := [(t0, .inr (3, [.ref b0, .int (nI tl), .int (tf), .int (tp), .ref tb, .int (nI p2), .int (1), .int (nI p), .int (tv), .int (th), .int (tN), .int (tO), .int (tpd)])), (tb, .inl (E.2.1 0, 160, .inl (by_)))]) rfl ?_
                    refine v_st (st' := [.int (if ¬ (by_ p2) < 97 ∧ ¬ 122 < (by_ p2) then 1 else 0)]) rfl ?_
                    refine v_ifB_eq (pc := 107) 123 dX3_takeToken_107 (by decide) (fun c_107 => ?_) (fun c_107 => ?_)
                    · skip
                      refine v_iconst (pc := 123) (v := 1) dX3_takeToken_123 (by decide) ?_
                      refine v_zret (pc := 124) dX3_takeToken_124 rfl rfl ⟨rfl, rfl⟩ (Rt.i2 ?_ ?_)
                      · skip
                        have hrl : run qL by_ tl p = p2 := by rw [h_84_1]; exact run_stop (fun q => c_107 (by simpa [qL] using q.2))
                        have hO : tkO by_ tl nx = true := by unfold tkO; rw [hS, if_neg (show ¬ tl ≤ p by omega), if_pos (show qL (by_ p) = true from decide_eq_true c_76)]
                        rw [hO]; rfl
                      · skip
                        have hrl : run qL by_ tl p = p2 := by rw [h_84_1]; exact run_stop (fun q => c_107 (by simpa [qL] using q.2))
                        have hO : tkO by_ tl nx = true := by unfold tkO; rw [hS, if_neg (show ¬ tl ≤ p by omega), if_pos (show qL (by_ p) = true from decide_eq_true c_76)]
                        have hN : tkN by_ tl nx = p2 := by unfold tkN; rw [hS, if_neg (show ¬ tl ≤ p by omega), if_pos (show qL (by_ p) = true from decide_eq_true c_76), hrl]
                        have hK : tkK by_ tl nx = 1 := by unfold tkK; rw [hS, if_neg (show ¬ tl ≤ p by omega), if_pos (show qL (by_ p) = true from decide_eq_true c_76)]
                        have hV : tkV by_ tl nx tv = tv := by unfold tkV; rw [hS, if_neg (show ¬ tl ≤ p by omega), if_pos (show qL (by_ p) = true from decide_eq_true c_76)]
                        rw [hO, hN, hK, hV, hS]; rfl
                    · skip
                      refine v_aload_n (pc := 110) 0 dX3_takeToken_110 rfl rfl ?_
                      refine v_dup (pc := 111) dX3_takeToken_111 rfl ?_
                      refine gf_185 (pc := 112) 0 dX3_takeToken_112 rfl rfl ?_
                      refine v_iconst (pc := 115) (v := 1) dX3_takeToken_115 (by decide) ?_
                      refine v_iadd (pc := 116) dX3_takeToken_116 ?_
                      refine v_st (st' := [.int (nI (p2 + 1)), .ref t0]) (by rw [nI_1]) ?_
                      refine pf_185 (pc := 117) (ws' := [(t0, .inr (3, [.ref b0, .int (nI tl), .int (tf), .int (tp), .ref tb, .int (nI (p2 + 1)), .int (1), .int (nI p), .int (tv), .int (th), .int (tN), .int (tO), .int (tpd)])), (tb, .inl (E.2.1 0, 160, .inl (by_)))]) 0 dX3_takeToken_117 rfl rfl rfl (Nat.le_of_ble_eq_true rfl) rfl ?_
                      refine v_goto (pc := 120) 84 dX3_takeToken_120 (by decide) ?_
                      refine v_lv (lv' := [(0, .ref t0)]) [0] rfl ?_
                      refine ih_84 (p2 + 1) (by omega) ?_ ?_
                      · omega
                      · rw [h_84_1]; exact run_step (by omega) (decide_eq_true c_107)
              refine v_lv (lv' := [(0, .ref t0)]) [0] rfl ?_
              refine loop_84 ((tl - p) + 1) p (Nat.lt_succ_self _) ?_ ?_
              · omega
              · rfl
          · skip
            refine v_aload_n (pc := 57) 0 dX3_takeToken_57 rfl rfl ?_
            refine v_iconst (pc := 58) (v := 0) dX3_takeToken_58 (by decide) ?_
            refine pf_186 (pc := 59) (ws' := [(t0, .inr (3, [.ref b0, .int (nI tl), .int (tf), .int (tp), .ref tb, .int (nI p), .int (0), .int (nI p), .int (tv), .int (th), .int (tN), .int (tO), .int (tpd)])), (tb, .inl (E.2.1 0, 160, .inl (by_)))]) 0 dX3_takeToken_59 rfl rfl rfl (Nat.le_of_ble_eq_true rfl) rfl ?_
            refine v_iconst (pc := 62) (v := 1) dX3_takeToken_62 (by decide) ?_
            refine v_zret (pc := 63) dX3_takeToken_63 rfl rfl ⟨rfl, rfl⟩ (Rt.i2 ?_ ?_)
            · skip
              have hO : tkO by_ tl nx = true := by unfold tkO; rw [hS, if_pos (show tl ≤ p from c_54)]
              rw [hO]; rfl
            · skip
              have hO : tkO by_ tl nx = true := by unfold tkO; rw [hS, if_pos (show tl ≤ p from c_54)]
              have hN : tkN by_ tl nx = p := by unfold tkN; rw [hS, if_pos (show tl ≤ p from c_54)]
              have hK : tkK by_ tl nx = 0 := by unfold tkK; rw [hS, if_pos (show tl ≤ p from c_54)]
              have hV : tkV by_ tl nx tv = tv := by unfold tkV; rw [hS, if_pos (show tl ≤ p from c_54)]
              rw [hO, hN, hK, hV, hS]; rfl
        · skip
          refine v_aload_n (pc := 25) 0 dX3_takeToken_25 rfl rfl ?_
          refine v_dup (pc := 26) dX3_takeToken_26 rfl ?_
          refine gf_185 (pc := 27) 0 dX3_takeToken_27 rfl rfl ?_
          refine v_iconst (pc := 30) (v := 1) dX3_takeToken_30 (by decide) ?_
          refine v_iadd (pc := 31) dX3_takeToken_31 ?_
          refine v_st (st' := [.int (nI (p + 1)), .ref t0]) (by rw [nI_1]) ?_
          refine pf_185 (pc := 32) (ws' := [(t0, .inr (3, [.ref b0, .int (nI tl), .int (tf), .int (tp), .ref tb, .int (nI (p + 1)), .int (tk), .int (nI sa), .int (tv), .int (th), .int (tN), .int (tO), .int (tpd)])), (tb, .inl (E.2.1 0, 160, .inl (by_)))]) 0 dX3_takeToken_32 rfl rfl rfl (Nat.le_of_ble_eq_true rfl) rfl ?_
          refine v_goto (pc := 35) 0 dX3_takeToken_35 (by decide) ?_
          refine v_lv (lv' := [(0, .ref t0)]) [0] rfl ?_
          refine ih_0 (p + 1) (by omega) ?_ ?_
          · omega
          · rw [h_0_1]; exact run_step (by omega) (decide_eq_true c_22)
  refine v_lv (lv' := [(0, .ref t0)]) [0] rfl ?_
  refine loop_0 ((tl - nx) + 1) nx (Nat.lt_succ_self _) ?_ ?_
  · omega
  · rfl
theorem c_X3_isName (l : Launch) (E : VE) (t0 : Nat) (b0 : Nat) (tb : Nat) (tl : Nat) (nx : Nat) (sa : Nat) (tf : Int32) (tp : Int32) (tk : Int32) (tv : Int32) (th : Int32) (tN : Int32) (tO : Int32) (tpd : Int32) (by_ : Nat → Int32) (i : Nat) (h_i : i < 8) (h_s : sa ≤ nx) (h_nx : nx ≤ tl) (h_tl : tl ≤ 160) : Ct l E yX3_isName cX3_isName 3 (Option.some FieldType.boolean) 4 85 0 0 [.ref t0, .ref (E.2.2.2.1 i)] [(t0, .inr (3, [.ref b0, .int (nI tl), .int (tf), .int (tp), .ref tb, .int (nI nx), .int (tk), .int (nI sa), .int (tv), .int (th), .int (tN), .int (tO), .int (tpd)])), (tb, .inl (E.2.1 0, 160, .inl (by_)))] (Rt (some (.int (if nmB tk by_ sa nx i = true then 1 else 0))) [(t0, .inr (3, [.ref b0, .int (nI tl), .int (tf), .int (tp), .ref tb, .int (nI nx), .int (tk), .int (nI sa), .int (tv), .int (th), .int (tN), .int (tO), .int (tpd)])), (tb, .inl (E.2.1 0, 160, .inl (by_)))]) := by
  refine Ct.of (own := RX3) (nm := "isName") (lv := [(0, .ref t0), (1, .ref (E.2.2.2.1 i))]) (by decide) rfl rfl (Nat.le_of_ble_eq_true rfl) rfl ?_
  have hl6 := lenS6 i h_i
  refine v_aload_n (pc := 0) 0 dX3_isName_0 rfl rfl ?_
  refine gf_186 (pc := 1) 0 dX3_isName_1 rfl rfl ?_
  refine v_iconst (pc := 4) (v := 1) dX3_isName_4 (by decide) ?_
  refine v_icmp_ne (pc := 5) 24 dX3_isName_5 (by decide) (fun c_5 => ?_) (fun c_5 => ?_)
  · skip
    refine v_iconst (pc := 24) (v := 0) dX3_isName_24 (by decide) ?_
    refine v_zret (pc := 25) dX3_isName_25 rfl rfl ⟨rfl, rfl⟩ (Rt.i ?_)
    exact (if_neg (by unfold nmB; rw [Bool.and_eq_true, decide_eq_true_eq]; exact fun q => c_5 q.1.1)).symm
  · skip
    refine v_aload_n (pc := 8) 0 dX3_isName_8 rfl rfl ?_
    refine gf_185 (pc := 9) 0 dX3_isName_9 rfl rfl ?_
    refine v_aload_n (pc := 12) 0 dX3_isName_12 rfl rfl ?_
    refine gf_187 (pc := 13) 0 dX3_isName_13 rfl rfl ?_
    refine v_isub (pc := 16) dX3_isName_16 ?_
    refine v_st (st' := [.int (nI (nx - sa))]) (by rw [pk_sub h_s]) ?_
    refine v_aload_n (pc := 17) 1 dX3_isName_17 rfl rfl ?_
    refine v_callVS (pc := 18) (rest := [.int (nI (nx - sa))]) i h_i lk_324 (c_J0_length_8abf5 l E i (by first | assumption | omega)) dX3_isName_18 rfl rfl (Nat.le_of_ble_eq_true rfl) (by decide) (Rt.len rfl) (Rt.go ?_)
    refine v_w (ws' := [(t0, .inr (3, [.ref b0, .int (nI tl), .int (tf), .int (tp), .ref tb, .int (nI nx), .int (tk), .int (nI sa), .int (tv), .int (th), .int (tN), .int (tO), .int (tpd)])), (tb, .inl (E.2.1 0, 160, .inl (by_)))]) rfl ?_
    refine v_st (st' := [.int (nI (lenS.getD i 0)), .int (nI (nx - sa))]) rfl ?_
    refine v_cmpN_eq (pc := 21) (a := nx - sa) (b := lenS.getD i 0) 26 dX3_isName_21 (by decide) (by omega) (by omega) (fun c_21 => ?_) (fun c_21 => ?_)
    · skip
      refine v_iconst (pc := 26) (v := 0) dX3_isName_26 (by decide) ?_
      refine v_istore_n (pc := 27) (lv' := [(2, .int (0)), (0, .ref t0), (1, .ref (E.2.2.2.1 i))]) dX3_isName_27 rfl (by decide) rfl ?_
      have loop_28 : ∀ (D_28 : Nat) (k : Nat), lenS.getD i 0 - k < D_28 → (k ≤ lenS.getD i 0) → (eqB by_ sa i k = true) → V l E RX3 cX3_isName 3 (Option.some FieldType.boolean) "isName" ({ frames := 4, cells := 0, slots := 0, locals := 85 }) [(t0, .inr (3, [.ref b0, .int (nI tl), .int (tf), .int (tp), .ref tb, .int (nI nx), .int (tk), .int (nI sa), .int (tv), .int (th), .int (tN), .int (tO), .int (tpd)])), (tb, .inl (E.2.1 0, 160, .inl (by_)))] 0 0 (Rt (some (.int (if nmB tk by_ sa nx i = true then 1 else 0))) [(t0, .inr (3, [.ref b0, .int (nI tl), .int (tf), .int (tp), .ref tb, .int (nI nx), .int (tk), .int (nI sa), .int (tv), .int (th), .int (tN), .int (tO), .int (tpd)])), (tb, .inl (E.2.1 0, 160, .inl (by_)))]) 0 0 28 [(2, .int (nI k)), (0, .ref t0), (1, .ref (E.2.2.2.1 i))] [] [(t0, .inr (3, [.ref b0, .int (nI tl), .int (tf), .int (tp), .ref tb, .int (nI nx), .int (tk), .int (nI sa), .int (tv), .int (th), .int (tN), .int (tO), .int (tpd)])), (tb, .inl (E.2.1 0, 160, .inl (by_)))] := by
        intro D_28
        induction D_28 with
        | zero => intro k h; exact absurd h (Nat.not_lt_zero _)
        | succ D_28 ih_28 =>
          intro k hmu_28 h_28_0 h_28_1
          refine v_iload_n (pc := 28) 0 dX3_isName_28 rfl rfl ?_
          refine v_aload_n (pc := 29) 2 dX3_isName_29 rfl rfl ?_
          refine v_callVS (pc := 30) (rest := [.int (nI k)]) i h_i lk_324 (c_J0_length_8abf5 l E i (by first | assumption | omega)) dX3_isName_30 rfl rfl (Nat.le_of_ble_eq_true rfl) (by decide) (Rt.len rfl) (Rt.go ?_)
          refine v_w (ws' := [(t0, .inr (3, [.ref b0, .int (nI tl), .int (tf), .int (tp), .ref tb, .int (nI nx), .int (tk), .int (nI sa), .int (tv), .int (th), .int (tN), .int (tO), .int (tpd)])), (tb, .inl (E.2.1 0, 160, .inl (by_)))]) rfl ?_
          refine v_st (st' := [.int (nI (lenS.getD i 0)), .int (nI k)]) rfl ?_
          refine v_cmpN_ge (pc := 33) (a := k) (b := lenS.getD i 0) 63 dX3_isName_33 (by decide) (by omega) (by omega) (fun c_33 => ?_) (fun c_33 => ?_)
          · skip
            refine v_iconst (pc := 63) (v := 1) dX3_isName_63 (by decide) ?_
            refine v_zret (pc := 64) dX3_isName_64 rfl rfl ⟨rfl, rfl⟩ (Rt.i ?_)
            exact (if_pos (by obtain rfl : k = lenS.getD i 0 := (by omega); unfold nmB; rw [h_28_1, decide_eq_true ⟨c_5, c_21⟩]; rfl)).symm
          · skip
            refine v_aload_n (pc := 36) 1 dX3_isName_36 rfl rfl ?_
            refine gf_184 (pc := 37) 0 dX3_isName_37 rfl rfl ?_
            refine v_aload_n (pc := 40) 1 dX3_isName_40 rfl rfl ?_
            refine gf_187 (pc := 41) 0 dX3_isName_41 rfl rfl ?_
            refine v_iload_n (pc := 44) 0 dX3_isName_44 rfl rfl ?_
            refine v_iadd (pc := 45) dX3_isName_45 ?_
            refine v_st (st' := [.int (nI (sa + k)), .ref tb]) (congrArg (fun z => Value.int z :: _) (nI_add sa k)) ?_
            refine v_baldN (pc := 46) 1 0 (sa + k) dX3_isName_46 rfl rfl rfl (by omega) (by decide) ?_
            refine v_aload_n (pc := 47) 2 dX3_isName_47 rfl rfl ?_
            refine v_iload_n (pc := 48) 0 dX3_isName_48 rfl rfl ?_
            refine v_callVS (pc := 49) (rest := [.int (by_ (sa + k))]) i h_i lk_334 (c_J0_charAt_5068e l E i (by first | assumption | omega) k (by first | assumption | omega)) dX3_isName_49 rfl rfl (Nat.le_of_ble_eq_true rfl) (by decide) (Rt.len rfl) (Rt.go ?_)
            refine v_w (ws' := [(t0, .inr (3, [.ref b0, .int (nI tl), .int (tf), .int (tp), .ref tb, .int (nI nx), .int (tk), .int (nI sa), .int (tv), .int (th), .int (tN), .int (tO), .int (tpd)])), (tb, .inl (E.2.1 0, 160, .inl (by_)))]) rfl ?_
            refine v_st (st' := [.int ((bytS.getD i []).getD k 0), .int (by_ (sa + k))]) rfl ?_
            refine v_icmp_eq (pc := 52) 57 dX3_isName_52 (by decide) (fun c_52 => ?_) (fun c_52 => ?_)
            · skip
              refine v_iinc (pc := 57) (v := nI (k + 1)) (lv' := [(2, .int (nI (k + 1))), (0, .ref t0), (1, .ref (E.2.2.2.1 i))]) 0 dX3_isName_57 rfl (nI_inc (k) 1) (by decide) rfl ?_
              refine v_goto (pc := 60) 28 dX3_isName_60 (by decide) ?_
              refine v_lv (lv' := [(2, .int (nI (k + 1))), (0, .ref t0), (1, .ref (E.2.2.2.1 i))]) [0, 1, 2] rfl ?_
              refine ih_28 (k + 1) (by omega) ?_ ?_
              · omega
              · simp only [eqB]; rw [h_28_1, decide_eq_true c_52]; rfl
            · skip
              refine v_iconst (pc := 55) (v := 0) dX3_isName_55 (by decide) ?_
              refine v_zret (pc := 56) dX3_isName_56 rfl rfl ⟨rfl, rfl⟩ (Rt.i ?_)
              exact (if_neg (by unfold nmB; rw [eqB_no c_52 _ (by omega), Bool.and_false]; decide)).symm
      refine v_lv (lv' := [(2, .int (nI 0)), (0, .ref t0), (1, .ref (E.2.2.2.1 i))]) [0, 1, 2] rfl ?_
      refine loop_28 ((lenS.getD i 0 - 0) + 1) 0 (Nat.lt_succ_self _) ?_ ?_
      · omega
      · rfl
    · skip
      refine v_iconst (pc := 24) (v := 0) dX3_isName_24 (by decide) ?_
      refine v_zret (pc := 25) dX3_isName_25 rfl rfl ⟨rfl, rfl⟩ (Rt.i ?_)
      exact (if_neg (by unfold nmB; rw [Bool.and_eq_true, decide_eq_true_eq]; exact fun q => c_21 q.1.2)).symm
