/-! Row -/
def fltA (la z lane i : Int32) : Int32 := if la = -1 then 1 else if la = lane then (if i < 0 then 2 else if i < z then 0 else 2) else 3
def fltP (la z lane i : Int32) : Int32 := if fltA la z lane i = 0 then fltA la z lane (i + 1) else fltA la z lane i
def putV (la v : Int32) : Int32 := if la = 0 then v.toInt8.toInt32 else if la = 1 then v.toInt16.toInt32 else v
theorem okN_in {x : Int32} {b N : Nat} (h1 : ¬ x < 0) (h2 : ¬ nI b ≤ x) (h : b ≤ N) (hN : N < 2 ^ 31) : vp_in x N := by
  rcases pk_ix x (n := b) (by omega) with q | q | ⟨j, hj, rfl⟩
  · exact absurd q h1
  · exact absurd q h2
  · exact vp_in_nI (by omega) hN
/-! bitCount -/
def bci1 (x : Int32) : Int32 := x - ((Int32.toUInt32 (x) >>> (Int32.toUInt32 (1) &&& Int32.toUInt32 31)).toInt32 &&& 1431655765)
def bci2 (x : Int32) : Int32 := (x &&& 858993459) + ((Int32.toUInt32 (x) >>> (Int32.toUInt32 (2) &&& Int32.toUInt32 31)).toInt32 &&& 858993459)
def bci3 (x : Int32) : Int32 := (x + (Int32.toUInt32 (x) >>> (Int32.toUInt32 (4) &&& Int32.toUInt32 31)).toInt32) &&& 252645135
def bci4 (x : Int32) : Int32 := x + (Int32.toUInt32 (x) >>> (Int32.toUInt32 (8) &&& Int32.toUInt32 31)).toInt32
def bci5 (x : Int32) : Int32 := x + (Int32.toUInt32 (x) >>> (Int32.toUInt32 (16) &&& Int32.toUInt32 31)).toInt32
def bci (x : Int32) : Int32 := bci5 (bci4 (bci3 (bci2 (bci1 x)))) &&& 63
def bcl1 (x : Int64) : Int64 := x - ((Int64.toUInt64 (x) >>> ((Int32.toInt64 (1)).toUInt64 &&& Int64.toUInt64 63)).toInt64 &&& 6148914691236517205)
def bcl2 (x : Int64) : Int64 := (x &&& 3689348814741910323) + ((Int64.toUInt64 (x) >>> ((Int32.toInt64 (2)).toUInt64 &&& Int64.toUInt64 63)).toInt64 &&& 3689348814741910323)
def bcl3 (x : Int64) : Int64 := (x + (Int64.toUInt64 (x) >>> ((Int32.toInt64 (4)).toUInt64 &&& Int64.toUInt64 63)).toInt64) &&& 1085102592571150095
def bcl4 (x : Int64) : Int64 := x + (Int64.toUInt64 (x) >>> ((Int32.toInt64 (8)).toUInt64 &&& Int64.toUInt64 63)).toInt64
def bcl5 (x : Int64) : Int64 := x + (Int64.toUInt64 (x) >>> ((Int32.toInt64 (16)).toUInt64 &&& Int64.toUInt64 63)).toInt64
def bcl6 (x : Int64) : Int64 := x + (Int64.toUInt64 (x) >>> ((Int32.toInt64 (32)).toUInt64 &&& Int64.toUInt64 63)).toInt64
def bcl (x : Int64) : Int32 := (bcl6 (bcl5 (bcl4 (bcl3 (bcl2 (bcl1 x)))))).toInt32 &&& 127
/-! sets in a long -/
abbrev isIn (s : Int32) (x : Int64) : Prop := ((Int64.toUInt64 (x) >>> ((Int32.toInt64 (s)).toUInt64 &&& Int64.toUInt64 63)).toInt64 &&& 1) = 1
def lstF (p : Nat → Bool) : Nat → Nat → Int32
  | 0, _ => -4
  | n + 1, i => if p i = true then nI i else lstF p n (i + 1)
def grF (p : Nat → Bool) : Nat → Int32
  | 0 => -4
  | n + 1 => if p n = true then nI n else grF p n
def inL (x : Int64) : Nat → Bool := fun j => decide (isIn (nI j) x)
def gv (j : Nat) : Int32 := nI j - 1
theorem gv_s (k : Nat) : gv (k + 1) = nI k := nI_pred k
theorem gv_m (k : Nat) : nI k + Int32.ofInt (-1) = gv k := by
  unfold gv
  rw [Int32.sub_eq_add_neg]
  rfl
theorem gv_pos {j : Nat} (h : ¬ gv j < 0) : ∃ k, j = k + 1 := by
  cases j with
  | zero => exact absurd (by decide) h
  | succ k => exact ⟨k, rfl⟩
theorem gv_neg {j : Nat} (hj : j ≤ 64) (h : gv j < 0) : j = 0 := by
  cases j with
  | zero => rfl
  | succ k => rw [gv_s] at h; exact absurd h (nI_pos (by omega))
def allB (x : Int64) (nt : Nat) : Int32 := if x = 0 then -4 else orF (fun j => decide (x &&& (HVj j ^^^ -1) = 0)) (fun j => nI j) nt
def nonB (x : Int64) (nt : Nat) : Int32 := if x = 0 then -4 else orF (fun j => decide (x &&& HVj j = 0)) (fun j => nI j) nt
def fitK (sn : Nat → Nat) (sh : Nat → Int32) (s0 : Int64) : Nat → Int64
  | 0 => s0
  | n + 1 => fitK sn sh s0 n &&& (if sh n = 0 then HVj (sn n) ^^^ -1 else HVj (sn n))
def few (m b : Int32) : Prop := b = -4 ∨ bci m < bci b
def meas (x : Int64) (kind : Int32) (n : Nat) : Int32 := if kind = 0 then (if x &&& HVj n = 0 then 0 else 1) else if kind = 1 then (if x = 0 then 1 else 0) else bcl x
def chgR (rl nt : Nat) (f g : Nat → Int32) (k n : Int32) (P : Prop) [Decidable P] : Int32 := if okN k rl then (if okN n nt then (if P ∧ bt1 (g k.toNatClampNeg) n = 1 then -2 else bt1 (f k.toNatClampNeg) n) else -1) else -1
def chgF (rl nt : Nat) (f g : Nat → Int32) (k n : Int32) (P : Prop) [Decidable P] : Nat → Int32 := if okN k rl then (if okN n nt then (if P ∧ bt1 (g k.toNatClampNeg) n = 1 then f else upd f k.toNatClampNeg (wb (f k.toNatClampNeg) n P)) else f) else f
def refu (nt : Nat) (sp n : Int32) (P : Prop) [Decidable P] : Int32 := if okN n nt then (if P ∧ bt1 sp n = 1 then -2 else 0) else -1
def keptN (kp : Nat → Int32) : Nat := (if kp 0 = 0 then 0 else 1) + (if kp 1 = 0 then 0 else 1)
theorem c_X1_renew (l : Launch) (E : VE) (r0 : Nat) (rc : Nat) (sz : Nat) (la : Int32) (rf : Nat → Int32) (x : Int32) (y : Int32) : Ct l E yX1_renew cX1_renew 3 (Option.none : Option Jvm.ClassFile.FieldType) 1 23 0 0 [.ref r0, .int (x), .int (y)] [(r0, .inr (1, [.int (la), .int (nI sz), .ref rc])), (rc, .inl (E.2.1 1, 40, .inl (rf)))] (Rt none [(r0, .inr (1, [.int (x), .int (y), .ref rc])), (rc, .inl (E.2.1 1, 40, .inl (fillI rf 0 40)))]) := by
  refine Ct.of (own := RX1) (nm := "renew") (lv := [(0, .ref r0), (1, .int (x)), (2, .int (y))]) (by decide) rfl rfl (Nat.le_of_ble_eq_true rfl) rfl ?_
  refine v_aload_n (pc := 0) 0 dX1_renew_0 rfl rfl ?_
  refine v_iload_n (pc := 1) 1 dX1_renew_1 rfl rfl ?_
  refine pf_228 (pc := 2) (ws' := [(r0, .inr (1, [.int (x), .int (nI sz), .ref rc])), (rc, .inl (E.2.1 1, 40, .inl (rf)))]) 0 dX1_renew_2 rfl rfl rfl (Nat.le_of_ble_eq_true rfl) rfl ?_
  refine v_aload_n (pc := 5) 0 dX1_renew_5 rfl rfl ?_
  refine v_iload_n (pc := 6) 2 dX1_renew_6 rfl rfl ?_
  refine pf_230 (pc := 7) (ws' := [(r0, .inr (1, [.int (x), .int (y), .ref rc])), (rc, .inl (E.2.1 1, 40, .inl (rf)))]) 0 dX1_renew_7 rfl rfl rfl (Nat.le_of_ble_eq_true rfl) rfl ?_
  refine v_aload_n (pc := 10) 0 dX1_renew_10 rfl rfl ?_
  refine gf_232 (pc := 11) 0 dX1_renew_11 rfl rfl ?_
  refine v_iconst (pc := 14) (v := 0) dX1_renew_14 (by decide) ?_
  refine v_callS (pc := 15) (rest := []) [1] lk_742 (c_J7_fill_53178 l E rc 40 rf 0 (by decide)) dX1_renew_15 rfl rfl (Nat.le_of_ble_eq_true rfl) (by decide) (by decide) rfl (Rt.len rfl) (Rt.go ?_)
  refine v_w (ws' := [(r0, .inr (1, [.int (x), .int (y), .ref rc])), (rc, .inl (E.2.1 1, 40, .inl (fillI rf 0 40)))]) rfl ?_
  refine v_st (st' := []) rfl ?_
  refine v_vret (pc := 18) dX1_renew_18 rfl ⟨rfl, rfl⟩ (Rt.w ?_)
  rfl
theorem c_X1_faultAt (l : Launch) (E : VE) (r0 : Nat) (rc : Nat) (sz : Nat) (la : Int32) (x : Int32) (y : Int32) : Ct l E yX1_faultAt cX1_faultAt 3 (Option.some FieldType.int) 0 0 0 0 [.ref r0, .int (x), .int (y)] [(r0, .inr (1, [.int (la), .int (nI sz), .ref rc]))] (Rt (some (.int (fltA la (nI sz) x y))) [(r0, .inr (1, [.int (la), .int (nI sz), .ref rc]))]) := by
  refine Ct.of (own := RX1) (nm := "faultAt") (lv := [(0, .ref r0), (1, .int (x)), (2, .int (y))]) (by decide) rfl rfl (Nat.le_of_ble_eq_true rfl) rfl ?_
  refine v_aload_n (pc := 0) 0 dX1_faultAt_0 rfl rfl ?_
  refine gf_228 (pc := 1) 0 dX1_faultAt_1 rfl rfl ?_
  refine v_iconst (pc := 4) (v := -1) dX1_faultAt_4 (by decide) ?_
  refine v_icmp_ne (pc := 5) 10 dX1_faultAt_5 (by decide) (fun c_5 => ?_) (fun c_5 => ?_)
  · skip
    refine v_aload_n (pc := 10) 0 dX1_faultAt_10 rfl rfl ?_
    refine gf_228 (pc := 11) 0 dX1_faultAt_11 rfl rfl ?_
    refine v_iload_n (pc := 14) 1 dX1_faultAt_14 rfl rfl ?_
    refine v_icmp_eq (pc := 15) 20 dX1_faultAt_15 (by decide) (fun c_15 => ?_) (fun c_15 => ?_)
    · skip
      refine v_iload_n (pc := 20) 2 dX1_faultAt_20 rfl rfl ?_
      refine v_if_lt (pc := 21) 32 dX1_faultAt_21 (by decide) (fun c_21 => ?_) (fun c_21 => ?_)
      · skip
        refine v_iconst (pc := 32) (v := 2) dX1_faultAt_32 (by decide) ?_
        refine v_goto (pc := 33) 37 dX1_faultAt_33 (by decide) ?_
        refine v_iret (pc := 37) dX1_faultAt_37 rfl ⟨rfl, rfl⟩ (Rt.i ?_)
        unfold fltA; simp only [if_neg c_5, if_pos c_15, if_pos c_21]
      · skip
        refine v_iload_n (pc := 24) 2 dX1_faultAt_24 rfl rfl ?_
        refine v_aload_n (pc := 25) 0 dX1_faultAt_25 rfl rfl ?_
        refine gf_230 (pc := 26) 0 dX1_faultAt_26 rfl rfl ?_
        refine v_icmp_lt (pc := 29) 36 dX1_faultAt_29 (by decide) (fun c_29 => ?_) (fun c_29 => ?_)
        · skip
          refine v_iconst (pc := 36) (v := 0) dX1_faultAt_36 (by decide) ?_
          refine v_iret (pc := 37) dX1_faultAt_37 rfl ⟨rfl, rfl⟩ (Rt.i ?_)
          unfold fltA; simp only [if_neg c_5, if_pos c_15, if_neg c_21, if_pos c_29]
        · skip
          refine v_iconst (pc := 32) (v := 2) dX1_faultAt_32 (by decide) ?_
          refine v_goto (pc := 33) 37 dX1_faultAt_33 (by decide) ?_
          refine v_iret (pc := 37) dX1_faultAt_37 rfl ⟨rfl, rfl⟩ (Rt.i ?_)
          unfold fltA; simp only [if_neg c_5, if_pos c_15, if_neg c_21, if_neg c_29]
    · skip
      refine v_iconst (pc := 18) (v := 3) dX1_faultAt_18 (by decide) ?_
      refine v_iret (pc := 19) dX1_faultAt_19 rfl ⟨rfl, rfl⟩ (Rt.i ?_)
      unfold fltA; simp only [if_neg c_5, if_neg c_15]
  · skip
    refine v_iconst (pc := 8) (v := 1) dX1_faultAt_8 (by decide) ?_
    refine v_iret (pc := 9) dX1_faultAt_9 rfl ⟨rfl, rfl⟩ (Rt.i ?_)
    unfold fltA; simp only [if_pos c_5]
theorem c_X1_faultAtPair (l : Launch) (E : VE) (r0 : Nat) (rc : Nat) (sz : Nat) (la : Int32) (x : Int32) (y : Int32) : Ct l E yX1_faultAtPair cX1_faultAtPair 4 (Option.some FieldType.int) 1 22 0 0 [.ref r0, .int (x), .int (y)] [(r0, .inr (1, [.int (la), .int (nI sz), .ref rc]))] (Rt (some (.int (fltP la (nI sz) x y))) [(r0, .inr (1, [.int (la), .int (nI sz), .ref rc]))]) := by
  refine Ct.of (own := RX1) (nm := "faultAtPair") (lv := [(0, .ref r0), (1, .int (x)), (2, .int (y))]) (by decide) rfl rfl (Nat.le_of_ble_eq_true rfl) rfl ?_
  refine v_aload_n (pc := 0) 0 dX1_faultAtPair_0 rfl rfl ?_
  refine v_iload_n (pc := 1) 1 dX1_faultAtPair_1 rfl rfl ?_
  refine v_iload_n (pc := 2) 2 dX1_faultAtPair_2 rfl rfl ?_
  refine v_callV (pc := 3) (rest := []) [0] 0 lk_763 (c_X1_faultAt l E r0 rc sz la x y) dX1_faultAtPair_3 rfl rfl (Nat.le_of_ble_eq_true rfl) (by decide) rfl rfl rfl (by decide) rfl (Rt.len rfl) (Rt.go ?_)
  refine v_w (ws' := [(r0, .inr (1, [.int (la), .int (nI sz), .ref rc]))]) rfl ?_
  refine v_st (st' := [.int (fltA la (nI sz) x y)]) rfl ?_
  refine v_istore_n (pc := 6) (lv' := [(3, .int (fltA la (nI sz) x y)), (0, .ref r0), (1, .int (x)), (2, .int (y))]) dX1_faultAtPair_6 rfl (by decide) rfl ?_
  refine v_iload_n (pc := 7) 0 dX1_faultAtPair_7 rfl rfl ?_
  refine v_if_eq (pc := 8) 15 dX1_faultAtPair_8 (by decide) (fun c_8 => ?_) (fun c_8 => ?_)
  · skip
    refine v_aload_n (pc := 15) 1 dX1_faultAtPair_15 rfl rfl ?_
    refine v_iload_n (pc := 16) 2 dX1_faultAtPair_16 rfl rfl ?_
    refine v_iload_n (pc := 17) 3 dX1_faultAtPair_17 rfl rfl ?_
    refine v_iconst (pc := 18) (v := 1) dX1_faultAtPair_18 (by decide) ?_
    refine v_iadd (pc := 19) dX1_faultAtPair_19 ?_
    refine v_callV (pc := 20) (rest := []) [0] 0 lk_763 (c_X1_faultAt l E r0 rc sz la x ((y) + (1))) dX1_faultAtPair_20 rfl rfl (Nat.le_of_ble_eq_true rfl) (by decide) rfl rfl rfl (by decide) rfl (Rt.len rfl) (Rt.go ?_)
    refine v_w (ws' := [(r0, .inr (1, [.int (la), .int (nI sz), .ref rc]))]) rfl ?_
    refine v_st (st' := [.int (fltA la (nI sz) x ((y) + (1)))]) rfl ?_
    refine v_iret (pc := 23) dX1_faultAtPair_23 rfl ⟨rfl, rfl⟩ (Rt.i ?_)
    unfold fltP; rw [if_pos c_8]
  · skip
    refine v_iload_n (pc := 11) 0 dX1_faultAtPair_11 rfl rfl ?_
    refine v_goto (pc := 12) 23 dX1_faultAtPair_12 (by decide) ?_
    refine v_iret (pc := 23) dX1_faultAtPair_23 rfl ⟨rfl, rfl⟩ (Rt.i ?_)
    unfold fltP; rw [if_neg c_8]
theorem c_X1_put (l : Launch) (E : VE) (r0 : Nat) (rc : Nat) (sz : Nat) (la : Int32) (rf : Nat → Int32) (i : Int32) (v : Int32) (h_sz : sz ≤ 40) : Ct l E yX1_put cX1_put 3 (Option.none : Option Jvm.ClassFile.FieldType) 0 0 0 0 [.ref r0, .int (i), .int (v)] [(r0, .inr (1, [.int (la), .int (nI sz), .ref rc])), (rc, .inl (E.2.1 1, 40, .inl (rf)))] (Rt none [(r0, .inr (1, [.int (la), .int (nI sz), .ref rc])), (rc, .inl (E.2.1 1, 40, .inl (if okN i sz then upd rf i.toNatClampNeg (putV la v) else rf)))]) := by
  refine Ct.of (own := RX1) (nm := "put") (lv := [(0, .ref r0), (1, .int (i)), (2, .int (v))]) (by decide) rfl rfl (Nat.le_of_ble_eq_true rfl) rfl ?_
  refine v_iload_n (pc := 0) 1 dX1_put_0 rfl rfl ?_
  refine v_if_lt (pc := 1) 44 dX1_put_1 (by decide) (fun c_1 => ?_) (fun c_1 => ?_)
  · skip
    refine v_vret (pc := 44) dX1_put_44 rfl ⟨rfl, rfl⟩ (Rt.w ?_)
    rw [if_neg (fun q => q.1 c_1)]
  · skip
    refine v_iload_n (pc := 4) 1 dX1_put_4 rfl rfl ?_
    refine v_aload_n (pc := 5) 0 dX1_put_5 rfl rfl ?_
    refine gf_230 (pc := 6) 0 dX1_put_6 rfl rfl ?_
    refine v_icmp_ge (pc := 9) 44 dX1_put_9 (by decide) (fun c_9 => ?_) (fun c_9 => ?_)
    · skip
      refine v_vret (pc := 44) dX1_put_44 rfl ⟨rfl, rfl⟩ (Rt.w ?_)
      rw [if_neg (fun q => q.2 c_9)]
    · skip
      refine v_aload_n (pc := 12) 0 dX1_put_12 rfl rfl ?_
      refine gf_232 (pc := 13) 0 dX1_put_13 rfl rfl ?_
      refine v_iload_n (pc := 16) 1 dX1_put_16 rfl rfl ?_
      refine v_aload_n (pc := 17) 0 dX1_put_17 rfl rfl ?_
      refine gf_228 (pc := 18) 0 dX1_put_18 rfl rfl ?_
      refine v_if_ne (pc := 21) 29 dX1_put_21 (by decide) (fun c_21 => ?_) (fun c_21 => ?_)
      · skip
        refine v_aload_n (pc := 29) 0 dX1_put_29 rfl rfl ?_
        refine gf_228 (pc := 30) 0 dX1_put_30 rfl rfl ?_
        refine v_iconst (pc := 33) (v := 1) dX1_put_33 (by decide) ?_
        refine v_icmp_ne (pc := 34) 42 dX1_put_34 (by decide) (fun c_34 => ?_) (fun c_34 => ?_)
        · skip
          refine v_iload_n (pc := 42) 2 dX1_put_42 rfl rfl ?_
          refine v_iast (pc := 43) (ws' := [(r0, .inr (1, [.int (la), .int (nI sz), .ref rc])), (rc, .inl (E.2.1 1, 40, .inl (upd (rf) (Int32.toNatClampNeg (i)) (v))))]) 1 1 dX1_put_43 rfl rfl (okN_in c_1 c_9 h_sz (by decide)) rfl ?_
          refine v_vret (pc := 44) dX1_put_44 rfl ⟨rfl, rfl⟩ (Rt.w ?_)
          rw [if_pos ⟨c_1, c_9⟩]; unfold putV; simp only [if_neg c_21, if_neg c_34]
        · skip
          refine v_iload_n (pc := 37) 2 dX1_put_37 rfl rfl ?_
          refine v_i2s (pc := 38) dX1_put_38 ?_
          refine v_goto (pc := 39) 43 dX1_put_39 (by decide) ?_
          refine v_iast (pc := 43) (ws' := [(r0, .inr (1, [.int (la), .int (nI sz), .ref rc])), (rc, .inl (E.2.1 1, 40, .inl (upd (rf) (Int32.toNatClampNeg (i)) ((Int32.toInt16 (v)).toInt32))))]) 1 1 dX1_put_43 rfl rfl (okN_in c_1 c_9 h_sz (by decide)) rfl ?_
          refine v_vret (pc := 44) dX1_put_44 rfl ⟨rfl, rfl⟩ (Rt.w ?_)
          rw [if_pos ⟨c_1, c_9⟩]; unfold putV; simp only [if_neg c_21, if_pos c_34]
      · skip
        refine v_iload_n (pc := 24) 2 dX1_put_24 rfl rfl ?_
        refine v_i2b (pc := 25) dX1_put_25 ?_
        refine v_goto (pc := 26) 43 dX1_put_26 (by decide) ?_
        refine v_iast (pc := 43) (ws' := [(r0, .inr (1, [.int (la), .int (nI sz), .ref rc])), (rc, .inl (E.2.1 1, 40, .inl (upd (rf) (Int32.toNatClampNeg (i)) ((Int32.toInt8 (v)).toInt32))))]) 1 1 dX1_put_43 rfl rfl (okN_in c_1 c_9 h_sz (by decide)) rfl ?_
        refine v_vret (pc := 44) dX1_put_44 rfl ⟨rfl, rfl⟩ (Rt.w ?_)
        rw [if_pos ⟨c_1, c_9⟩]; unfold putV; simp only [if_pos c_21]
theorem c_X1_cellAt (l : Launch) (E : VE) (r0 : Nat) (rc : Nat) (sz : Nat) (la : Int32) (rf : Nat → Int32) (i : Int32) (h_sz : sz ≤ 40) : Ct l E yX1_cellAt cX1_cellAt 2 (Option.some FieldType.int) 0 0 0 0 [.ref r0, .int (i)] [(r0, .inr (1, [.int (la), .int (nI sz), .ref rc])), (rc, .inl (E.2.1 1, 40, .inl (rf)))] (Rt (some (.int (if okN i sz then rf i.toNatClampNeg else 0))) [(r0, .inr (1, [.int (la), .int (nI sz), .ref rc])), (rc, .inl (E.2.1 1, 40, .inl (rf)))]) := by
  refine Ct.of (own := RX1) (nm := "cellAt") (lv := [(0, .ref r0), (1, .int (i))]) (by decide) rfl rfl (Nat.le_of_ble_eq_true rfl) rfl ?_
  refine v_iload_n (pc := 0) 1 dX1_cellAt_0 rfl rfl ?_
  refine v_if_lt (pc := 1) 21 dX1_cellAt_1 (by decide) (fun c_1 => ?_) (fun c_1 => ?_)
  · skip
    refine v_iconst (pc := 21) (v := 0) dX1_cellAt_21 (by decide) ?_
    refine v_iret (pc := 22) dX1_cellAt_22 rfl ⟨rfl, rfl⟩ (Rt.i ?_)
    rw [if_neg (fun q => q.1 c_1)]
  · skip
    refine v_iload_n (pc := 4) 1 dX1_cellAt_4 rfl rfl ?_
    refine v_aload_n (pc := 5) 0 dX1_cellAt_5 rfl rfl ?_
    refine gf_230 (pc := 6) 0 dX1_cellAt_6 rfl rfl ?_
    refine v_icmp_ge (pc := 9) 21 dX1_cellAt_9 (by decide) (fun c_9 => ?_) (fun c_9 => ?_)
    · skip
      refine v_iconst (pc := 21) (v := 0) dX1_cellAt_21 (by decide) ?_
      refine v_iret (pc := 22) dX1_cellAt_22 rfl ⟨rfl, rfl⟩ (Rt.i ?_)
      rw [if_neg (fun q => q.2 c_9)]
    · skip
      refine v_aload_n (pc := 12) 0 dX1_cellAt_12 rfl rfl ?_
      refine gf_232 (pc := 13) 0 dX1_cellAt_13 rfl rfl ?_
      refine v_iload_n (pc := 16) 1 dX1_cellAt_16 rfl rfl ?_
      refine v_iald (pc := 17) 1 1 dX1_cellAt_17 rfl rfl (okN_in c_1 c_9 h_sz (by decide)) ?_
      refine v_goto (pc := 18) 22 dX1_cellAt_18 (by decide) ?_
      refine v_iret (pc := 22) dX1_cellAt_22 rfl ⟨rfl, rfl⟩ (Rt.i ?_)
      rw [if_pos ⟨c_1, c_9⟩]
theorem c_J6_bitCount_0f7a4 (l : Launch) (E : VE) (x : Int32) : Ct l E yJ6_bitCount_0f7a4 cJ6_bitCount_0f7a4 1 (Option.some FieldType.int) 0 0 0 0 [.int (x)] [] (Rt (some (.int (bci x))) []) := by
  refine Ct.of (own := RJ6) (nm := "bitCount") (lv := [(0, .int (x))]) (by decide) rfl rfl (Nat.le_of_ble_eq_true rfl) rfl ?_
  refine v_iload_n (pc := 0) 0 dJ6_bitCount_0f7a4_0 rfl rfl ?_
  refine v_iload_n (pc := 1) 0 dJ6_bitCount_0f7a4_1 rfl rfl ?_
  refine v_iconst (pc := 2) (v := 1) dJ6_bitCount_0f7a4_2 (by decide) ?_
  refine v_iushr (pc := 3) dJ6_bitCount_0f7a4_3 ?_
  refine v_ldcw (pc := 4) dJ6_bitCount_0f7a4_4 tb_639 ?_
  refine v_iand (pc := 7) dJ6_bitCount_0f7a4_7 ?_
  refine v_isub (pc := 8) dJ6_bitCount_0f7a4_8 ?_
  refine v_st (st' := [.int (bci1 x)]) rfl ?_
  refine v_istore_n (pc := 9) (lv' := [(0, .int (bci1 x))]) dJ6_bitCount_0f7a4_9 rfl (by decide) rfl ?_
  refine v_iload_n (pc := 10) 0 dJ6_bitCount_0f7a4_10 rfl rfl ?_
  refine v_ldcw (pc := 11) dJ6_bitCount_0f7a4_11 tb_640 ?_
  refine v_iand (pc := 14) dJ6_bitCount_0f7a4_14 ?_
  refine v_iload_n (pc := 15) 0 dJ6_bitCount_0f7a4_15 rfl rfl ?_
  refine v_iconst (pc := 16) (v := 2) dJ6_bitCount_0f7a4_16 (by decide) ?_
  refine v_iushr (pc := 17) dJ6_bitCount_0f7a4_17 ?_
  refine v_ldcw (pc := 18) dJ6_bitCount_0f7a4_18 tb_640 ?_
  refine v_iand (pc := 21) dJ6_bitCount_0f7a4_21 ?_
  refine v_iadd (pc := 22) dJ6_bitCount_0f7a4_22 ?_
  refine v_st (st' := [.int (bci2 (bci1 x))]) rfl ?_
  refine v_istore_n (pc := 23) (lv' := [(0, .int (bci2 (bci1 x)))]) dJ6_bitCount_0f7a4_23 rfl (by decide) rfl ?_
  refine v_iload_n (pc := 24) 0 dJ6_bitCount_0f7a4_24 rfl rfl ?_
  refine v_iload_n (pc := 25) 0 dJ6_bitCount_0f7a4_25 rfl rfl ?_
  refine v_iconst (pc := 26) (v := 4) dJ6_bitCount_0f7a4_26 (by decide) ?_
  refine v_iushr (pc := 27) dJ6_bitCount_0f7a4_27 ?_
  refine v_iadd (pc := 28) dJ6_bitCount_0f7a4_28 ?_
  refine v_ldcw (pc := 29) dJ6_bitCount_0f7a4_29 tb_641 ?_
  refine v_iand (pc := 32) dJ6_bitCount_0f7a4_32 ?_
  refine v_st (st' := [.int (bci3 (bci2 (bci1 x)))]) rfl ?_
  refine v_istore_n (pc := 33) (lv' := [(0, .int (bci3 (bci2 (bci1 x))))]) dJ6_bitCount_0f7a4_33 rfl (by decide) rfl ?_
  refine v_iload_n (pc := 34) 0 dJ6_bitCount_0f7a4_34 rfl rfl ?_
  refine v_iload_n (pc := 35) 0 dJ6_bitCount_0f7a4_35 rfl rfl ?_
  refine v_bipush (pc := 36) (v := 8) dJ6_bitCount_0f7a4_36 (by decide) ?_
  refine v_iushr (pc := 38) dJ6_bitCount_0f7a4_38 ?_
  refine v_iadd (pc := 39) dJ6_bitCount_0f7a4_39 ?_
  refine v_st (st' := [.int (bci4 (bci3 (bci2 (bci1 x))))]) rfl ?_
  refine v_istore_n (pc := 40) (lv' := [(0, .int (bci4 (bci3 (bci2 (bci1 x)))))]) dJ6_bitCount_0f7a4_40 rfl (by decide) rfl ?_
  refine v_iload_n (pc := 41) 0 dJ6_bitCount_0f7a4_41 rfl rfl ?_
  refine v_iload_n (pc := 42) 0 dJ6_bitCount_0f7a4_42 rfl rfl ?_
  refine v_bipush (pc := 43) (v := 16) dJ6_bitCount_0f7a4_43 (by decide) ?_
  refine v_iushr (pc := 45) dJ6_bitCount_0f7a4_45 ?_
  refine v_iadd (pc := 46) dJ6_bitCount_0f7a4_46 ?_
  refine v_st (st' := [.int (bci5 (bci4 (bci3 (bci2 (bci1 x)))))]) rfl ?_
  refine v_istore_n (pc := 47) (lv' := [(0, .int (bci5 (bci4 (bci3 (bci2 (bci1 x))))))]) dJ6_bitCount_0f7a4_47 rfl (by decide) rfl ?_
  refine v_iload_n (pc := 48) 0 dJ6_bitCount_0f7a4_48 rfl rfl ?_
  refine v_bipush (pc := 49) (v := 63) dJ6_bitCount_0f7a4_49 (by decide) ?_
  refine v_iand (pc := 51) dJ6_bitCount_0f7a4_51 ?_
  refine v_iret (pc := 52) dJ6_bitCount_0f7a4_52 rfl ⟨rfl, rfl⟩ (Rt.i ?_)
  rfl
theorem c_J13_bitCount_95d88 (l : Launch) (E : VE) (x : Int64) : Ct l E yJ13_bitCount_95d88 cJ13_bitCount_95d88 2 (Option.some FieldType.int) 0 0 0 0 [.long (x)] [] (Rt (some (.int (bcl x))) []) := by
  refine Ct.of (own := RJ13) (nm := "bitCount") (lv := [(0, .long (x))]) (by decide) rfl rfl (Nat.le_of_ble_eq_true rfl) rfl ?_
  refine v_lload_n (pc := 0) 0 dJ13_bitCount_95d88_0 rfl rfl ?_
  refine v_lload_n (pc := 1) 0 dJ13_bitCount_95d88_1 rfl rfl ?_
  refine v_iconst (pc := 2) (v := 1) dJ13_bitCount_95d88_2 (by decide) ?_
  refine v_lushr (pc := 3) dJ13_bitCount_95d88_3 ?_
  refine v_ldc2 (pc := 4) dJ13_bitCount_95d88_4 tb_568 ?_
  refine v_land (pc := 7) dJ13_bitCount_95d88_7 ?_
  refine v_lsub (pc := 8) dJ13_bitCount_95d88_8 ?_
  refine v_st (st' := [.long (bcl1 x)]) rfl ?_
  refine v_lstore_n (pc := 9) (lv' := [(0, .long (bcl1 x))]) dJ13_bitCount_95d88_9 rfl (by decide) rfl ?_
  refine v_lload_n (pc := 10) 0 dJ13_bitCount_95d88_10 rfl rfl ?_
  refine v_ldc2 (pc := 11) dJ13_bitCount_95d88_11 tb_569 ?_
  refine v_land (pc := 14) dJ13_bitCount_95d88_14 ?_
  refine v_lload_n (pc := 15) 0 dJ13_bitCount_95d88_15 rfl rfl ?_
  refine v_iconst (pc := 16) (v := 2) dJ13_bitCount_95d88_16 (by decide) ?_
  refine v_lushr (pc := 17) dJ13_bitCount_95d88_17 ?_
  refine v_ldc2 (pc := 18) dJ13_bitCount_95d88_18 tb_569 ?_
  refine v_land (pc := 21) dJ13_bitCount_95d88_21 ?_
  refine v_ladd (pc := 22) dJ13_bitCount_95d88_22 ?_
  refine v_st (st' := [.long (bcl2 (bcl1 x))]) rfl ?_
  refine v_lstore_n (pc := 23) (lv' := [(0, .long (bcl2 (bcl1 x)))]) dJ13_bitCount_95d88_23 rfl (by decide) rfl ?_
  refine v_lload_n (pc := 24) 0 dJ13_bitCount_95d88_24 rfl rfl ?_
  refine v_lload_n (pc := 25) 0 dJ13_bitCount_95d88_25 rfl rfl ?_
  refine v_iconst (pc := 26) (v := 4) dJ13_bitCount_95d88_26 (by decide) ?_
  refine v_lushr (pc := 27) dJ13_bitCount_95d88_27 ?_
  refine v_ladd (pc := 28) dJ13_bitCount_95d88_28 ?_
  refine v_ldc2 (pc := 29) dJ13_bitCount_95d88_29 tb_570 ?_
  refine v_land (pc := 32) dJ13_bitCount_95d88_32 ?_
  refine v_st (st' := [.long (bcl3 (bcl2 (bcl1 x)))]) rfl ?_
  refine v_lstore_n (pc := 33) (lv' := [(0, .long (bcl3 (bcl2 (bcl1 x))))]) dJ13_bitCount_95d88_33 rfl (by decide) rfl ?_
  refine v_lload_n (pc := 34) 0 dJ13_bitCount_95d88_34 rfl rfl ?_
  refine v_lload_n (pc := 35) 0 dJ13_bitCount_95d88_35 rfl rfl ?_
  refine v_bipush (pc := 36) (v := 8) dJ13_bitCount_95d88_36 (by decide) ?_
  refine v_lushr (pc := 38) dJ13_bitCount_95d88_38 ?_
  refine v_ladd (pc := 39) dJ13_bitCount_95d88_39 ?_
  refine v_st (st' := [.long (bcl4 (bcl3 (bcl2 (bcl1 x))))]) rfl ?_
  refine v_lstore_n (pc := 40) (lv' := [(0, .long (bcl4 (bcl3 (bcl2 (bcl1 x)))))]) dJ13_bitCount_95d88_40 rfl (by decide) rfl ?_
  refine v_lload_n (pc := 41) 0 dJ13_bitCount_95d88_41 rfl rfl ?_
  refine v_lload_n (pc := 42) 0 dJ13_bitCount_95d88_42 rfl rfl ?_
  refine v_bipush (pc := 43) (v := 16) dJ13_bitCount_95d88_43 (by decide) ?_
  refine v_lushr (pc := 45) dJ13_bitCount_95d88_45 ?_
  refine v_ladd (pc := 46) dJ13_bitCount_95d88_46 ?_
  refine v_st (st' := [.long (bcl5 (bcl4 (bcl3 (bcl2 (bcl1 x)))))]) rfl ?_
  refine v_lstore_n (pc := 47) (lv' := [(0, .long (bcl5 (bcl4 (bcl3 (bcl2 (bcl1 x))))))]) dJ13_bitCount_95d88_47 rfl (by decide) rfl ?_
  refine v_lload_n (pc := 48) 0 dJ13_bitCount_95d88_48 rfl rfl ?_
  refine v_lload_n (pc := 49) 0 dJ13_bitCount_95d88_49 rfl rfl ?_
  refine v_bipush (pc := 50) (v := 32) dJ13_bitCount_95d88_50 (by decide) ?_
  refine v_lushr (pc := 52) dJ13_bitCount_95d88_52 ?_
  refine v_ladd (pc := 53) dJ13_bitCount_95d88_53 ?_
  refine v_st (st' := [.long (bcl6 (bcl5 (bcl4 (bcl3 (bcl2 (bcl1 x))))))]) rfl ?_
  refine v_lstore_n (pc := 54) (lv' := [(0, .long (bcl6 (bcl5 (bcl4 (bcl3 (bcl2 (bcl1 x)))))))]) dJ13_bitCount_95d88_54 rfl (by decide) rfl ?_
  refine v_lload_n (pc := 55) 0 dJ13_bitCount_95d88_55 rfl rfl ?_
  refine v_l2i (pc := 56) dJ13_bitCount_95d88_56 ?_
  refine v_bipush (pc := 57) (v := 127) dJ13_bitCount_95d88_57 (by decide) ?_
  refine v_iand (pc := 59) dJ13_bitCount_95d88_59 ?_
  refine v_iret (pc := 60) dJ13_bitCount_95d88_60 rfl ⟨rfl, rfl⟩ (Rt.i ?_)
  rfl
theorem c_X4_isAmong (l : Launch) (E : VE) (s : Int32) (x : Int64) : Ct l E yX4_isAmong cX4_isAmong 3 (Option.some FieldType.boolean) 0 0 0 0 [.int (s), .long (x)] [] (Rt (some (.int (if isIn s x then 1 else 0))) []) := by
  refine Ct.of (own := RX4) (nm := "isAmong") (lv := [(0, .int (s)), (1, .long (x))]) (by decide) rfl rfl (Nat.le_of_ble_eq_true rfl) rfl ?_
  refine v_lload_n (pc := 0) 1 dX4_isAmong_0 rfl rfl ?_
  refine v_iload_n (pc := 1) 0 dX4_isAmong_1 rfl rfl ?_
  refine v_lushr (pc := 2) dX4_isAmong_2 ?_
  refine v_lconst (pc := 3) (v := 1) dX4_isAmong_3 (by decide) ?_
  refine v_land (pc := 4) dX4_isAmong_4 ?_
  refine v_lconst (pc := 5) (v := 1) dX4_isAmong_5 (by decide) ?_
  refine v_lcmp (pc := 6) dX4_isAmong_6 ?_
  refine v_lc_ne (pc := 7) 14 dX4_isAmong_7 (by decide) (fun c_7 => ?_) (fun c_7 => ?_)
  · skip
    refine v_iconst (pc := 14) (v := 0) dX4_isAmong_14 (by decide) ?_
    refine v_zret (pc := 15) dX4_isAmong_15 rfl rfl ⟨rfl, rfl⟩ (Rt.i ?_)
    rw [if_neg c_7]
  · skip
    refine v_iconst (pc := 10) (v := 1) dX4_isAmong_10 (by decide) ?_
    refine v_goto (pc := 11) 15 dX4_isAmong_11 (by decide) ?_
    refine v_zret (pc := 15) dX4_isAmong_15 rfl rfl ⟨rfl, rfl⟩ (Rt.i ?_)
    rw [if_pos c_7]
theorem c_X4_leastOf (l : Launch) (E : VE) (x : Int64) : Ct l E yX4_leastOf cX4_leastOf 3 (Option.some FieldType.int) 1 22 0 0 [.long (x)] [] (Rt (some (.int (lstF (inL x) 64 0))) []) := by
  refine Ct.of (own := RX4) (nm := "leastOf") (lv := [(0, .long (x))]) (by decide) rfl rfl (Nat.le_of_ble_eq_true rfl) rfl ?_
  refine v_iconst (pc := 0) (v := 0) dX4_leastOf_0 (by decide) ?_
  refine v_istore_n (pc := 1) (lv' := [(2, .int (0)), (0, .long (x))]) dX4_leastOf_1 rfl (by decide) rfl ?_
  have loop_2 : ∀ (D_2 : Nat) (i : Nat), 64 - i < D_2 → (i ≤ 64) → (lstF (inL x) 64 0 = lstF (inL x) (64 - i) i) → V l E RX4 cX4_leastOf 3 (Option.some FieldType.int) "leastOf" ({ frames := 1, cells := 0, slots := 0, locals := 22 }) [] 0 0 (Rt (some (.int (lstF (inL x) 64 0))) []) 0 0 2 [(2, .int (nI i)), (0, .long (x))] [] [] := by
    intro D_2
    induction D_2 with
    | zero => intro i h; exact absurd h (Nat.not_lt_zero _)
    | succ D_2 ih_2 =>
      intro i hmu_2 h_2_0 h_2_1
      refine v_iload_n (pc := 2) 0 dX4_leastOf_2 rfl rfl ?_
      refine v_bipush (pc := 3) (v := 64) dX4_leastOf_3 (by decide) ?_
      refine v_cmpN_ge (pc := 5) (a := i) (b := 64) 24 dX4_leastOf_5 (by decide) (by omega) (by omega) (fun c_5 => ?_) (fun c_5 => ?_)
      · skip
        refine v_bipush (pc := 24) (v := -4) dX4_leastOf_24 (by decide) ?_
        refine v_iret (pc := 26) dX4_leastOf_26 rfl ⟨rfl, rfl⟩ (Rt.i ?_)
        rw [h_2_1, show 64 - i = 0 by omega]; rfl
      · skip
        refine v_iload_n (pc := 8) 0 dX4_leastOf_8 rfl rfl ?_
        refine v_lload_n (pc := 9) 1 dX4_leastOf_9 rfl rfl ?_
        refine v_callS (pc := 10) (rest := []) [] lk_574 (c_X4_isAmong l E (nI i) x) dX4_leastOf_10 rfl rfl (Nat.le_of_ble_eq_true rfl) (by decide) (by decide) rfl (Rt.len rfl) (Rt.go ?_)
        refine v_w (ws' := []) rfl ?_
        refine v_st (st' := [.int (if isIn (nI i) x then 1 else 0)]) rfl ?_
        refine v_ifB_eq (pc := 13) 18 dX4_leastOf_13 (by decide) (fun c_13 => ?_) (fun c_13 => ?_)
        · skip
          refine v_iinc (pc := 18) (v := nI (i + 1)) (lv' := [(2, .int (nI (i + 1))), (0, .long (x))]) 0 dX4_leastOf_18 rfl (nI_inc (i) 1) (by decide) rfl ?_
          refine v_goto (pc := 21) 2 dX4_leastOf_21 (by decide) ?_
          refine v_lv (lv' := [(2, .int (nI (i + 1))), (0, .long (x))]) [0, 1] rfl ?_
          refine ih_2 (i + 1) (by omega) ?_ ?_
          · omega
          · rw [h_2_1, show 64 - i = (64 - (i + 1)) + 1 by omega, lstF, if_neg (by simpa [inL] using c_13)]
        · skip
          refine v_iload_n (pc := 16) 0 dX4_leastOf_16 rfl rfl ?_
          refine v_iret (pc := 17) dX4_leastOf_17 rfl ⟨rfl, rfl⟩ (Rt.i ?_)
          rw [h_2_1, show 64 - i = (64 - (i + 1)) + 1 by omega, lstF, if_pos (by simpa [inL] using c_13)]
  refine v_lv (lv' := [(2, .int (nI 0)), (0, .long (x))]) [0, 1] rfl ?_
  refine loop_2 ((64 - 0) + 1) 0 (Nat.lt_succ_self _) ?_ ?_
  · omega
  · rfl
theorem c_X4_greatestOf (l : Launch) (E : VE) (x : Int64) : Ct l E yX4_greatestOf cX4_greatestOf 3 (Option.some FieldType.int) 1 22 0 0 [.long (x)] [] (Rt (some (.int (grF (inL x) 64))) []) := by
  refine Ct.of (own := RX4) (nm := "greatestOf") (lv := [(0, .long (x))]) (by decide) rfl rfl (Nat.le_of_ble_eq_true rfl) rfl ?_
  refine v_bipush (pc := 0) (v := 63) dX4_greatestOf_0 (by decide) ?_
  refine v_istore_n (pc := 2) (lv' := [(2, .int (63)), (0, .long (x))]) dX4_greatestOf_2 rfl (by decide) rfl ?_
  have loop_3 : ∀ (D_3 : Nat) (j : Nat), j < D_3 → (j ≤ 64) → (grF (inL x) 64 = grF (inL x) j) → V l E RX4 cX4_greatestOf 3 (Option.some FieldType.int) "greatestOf" ({ frames := 1, cells := 0, slots := 0, locals := 22 }) [] 0 0 (Rt (some (.int (grF (inL x) 64))) []) 0 0 3 [(2, .int (gv j)), (0, .long (x))] [] [] := by
    intro D_3
    induction D_3 with
    | zero => intro j h; exact absurd h (Nat.not_lt_zero _)
    | succ D_3 ih_3 =>
      intro j hmu_3 h_3_0 h_3_1
      refine v_iload_n (pc := 3) 0 dX4_greatestOf_3 rfl rfl ?_
      refine v_if_lt (pc := 4) 23 dX4_greatestOf_4 (by decide) (fun c_4 => ?_) (fun c_4 => ?_)
      · skip
        refine v_bipush (pc := 23) (v := -4) dX4_greatestOf_23 (by decide) ?_
        refine v_iret (pc := 25) dX4_greatestOf_25 rfl ⟨rfl, rfl⟩ (Rt.i ?_)
        rw [h_3_1, gv_neg h_3_0 c_4]; rfl
      · skip
        obtain ⟨k, rfl⟩ := gv_pos c_4
        rw [gv_s]
        refine v_iload_n (pc := 7) 0 dX4_greatestOf_7 rfl rfl ?_
        refine v_lload_n (pc := 8) 1 dX4_greatestOf_8 rfl rfl ?_
        refine v_callS (pc := 9) (rest := []) [] lk_574 (c_X4_isAmong l E (nI k) x) dX4_greatestOf_9 rfl rfl (Nat.le_of_ble_eq_true rfl) (by decide) (by decide) rfl (Rt.len rfl) (Rt.go ?_)
        refine v_w (ws' := []) rfl ?_
        refine v_st (st' := [.int (if isIn (nI k) x then 1 else 0)]) rfl ?_
        refine v_ifB_eq (pc := 12) 17 dX4_greatestOf_12 (by decide) (fun c_12 => ?_) (fun c_12 => ?_)
        · skip
          refine v_iinc (pc := 17) (v := gv k) (lv' := [(2, .int (gv k)), (0, .long (x))]) 0 dX4_greatestOf_17 rfl (gv_m k) (by decide) rfl ?_
          refine v_goto (pc := 20) 3 dX4_greatestOf_20 (by decide) ?_
          refine v_lv (lv' := [(2, .int (gv k)), (0, .long (x))]) [0, 1] rfl ?_
          refine ih_3 k (by omega) ?_ ?_
          · omega
          · rw [h_3_1, grF, if_neg (by simpa [inL] using c_12)]
        · skip
          refine v_iload_n (pc := 15) 0 dX4_greatestOf_15 rfl rfl ?_
          refine v_iret (pc := 16) dX4_greatestOf_16 rfl ⟨rfl, rfl⟩ (Rt.i ?_)
          rw [h_3_1, grF, if_pos (by simpa [inL] using c_12)]
  refine v_lv (lv' := [(2, .int (gv 64)), (0, .long (x))]) [0, 1] rfl ?_
  refine loop_3 (64 + 1) 64 (Nat.lt_succ_self _) ?_ ?_
  · omega
  · rfl
theorem c_X4_sizeOf (l : Launch) (E : VE) (b : Int32) : Ct l E yX4_sizeOf cX4_sizeOf 1 (Option.some FieldType.int) 1 20 0 0 [.int (b)] [] (Rt (some (.int (if b = -4 then -4 else bci b))) []) := by
  refine Ct.of (own := RX4) (nm := "sizeOf") (lv := [(0, .int (b))]) (by decide) rfl rfl (Nat.le_of_ble_eq_true rfl) rfl ?_
  refine v_iload_n (pc := 0) 0 dX4_sizeOf_0 rfl rfl ?_
  refine v_bipush (pc := 1) (v := -4) dX4_sizeOf_1 (by decide) ?_
  refine v_icmp_ne (pc := 3) 11 dX4_sizeOf_3 (by decide) (fun c_3 => ?_) (fun c_3 => ?_)
  · skip
    refine v_iload_n (pc := 11) 0 dX4_sizeOf_11 rfl rfl ?_
    refine v_callS (pc := 12) (rest := []) [] lk_636 (c_J6_bitCount_0f7a4 l E b) dX4_sizeOf_12 rfl rfl (Nat.le_of_ble_eq_true rfl) (by decide) (by decide) rfl (Rt.len rfl) (Rt.go ?_)
    refine v_w (ws' := []) rfl ?_
    refine v_st (st' := [.int (bci b)]) rfl ?_
    refine v_iret (pc := 15) dX4_sizeOf_15 rfl ⟨rfl, rfl⟩ (Rt.i ?_)
    rw [if_neg c_3]
  · skip
    refine v_bipush (pc := 6) (v := -4) dX4_sizeOf_6 (by decide) ?_
    refine v_goto (pc := 8) 15 dX4_sizeOf_8 (by decide) ?_
    refine v_iret (pc := 15) dX4_sizeOf_15 rfl ⟨rfl, rfl⟩ (Rt.i ?_)
    rw [if_pos c_3]
