/-- what a bit is -/
def bt1 (b i : Int32) : Int32 := (b >>> (i &&& 31)) &&& 1
def wb (b i : Int32) (is : Prop) [Decidable is] : Int32 := if is then b ||| ((1 : Int32) <<< (i &&& 31)) else b &&& (((1 : Int32) <<< (i &&& 31)) ^^^ -1)
def amg (s : Int32) (x : Int64) : Prop := ((x.toUInt64 >>> (s.toInt64.toUInt64 &&& Int64.toUInt64 63)).toInt64 &&& 1) = 1
def amg_dec (s : Int32) (x : Int64) : Decidable (amg s x) := by unfold amg; exact inferInstance
/-- bitOf -/
theorem c_X4_bitOf (l : Launch) (E : VE) (b : Int32) (i : Int32) : Ct l E yX4_bitOf cX4_bitOf 2 (Option.some FieldType.int) 0 0 0 0 [.int (b), .int (i)] [] (Rt (some (.int (bt1 b i))) []) := by
  refine Ct.of (own := RX4) (nm := "bitOf") (lv := [(0, .int (b)), (1, .int (i))]) (by decide) rfl rfl (Nat.le_of_ble_eq_true rfl) rfl ?_
  refine v_iload_n (pc := 0) 0 dX4_bitOf_0 rfl rfl ?_
  refine v_iload_n (pc := 1) 1 dX4_bitOf_1 rfl rfl ?_
  refine v_ishr (pc := 2) dX4_bitOf_2 ?_
  refine v_iconst (pc := 3) (v := 1) dX4_bitOf_3 (by decide) ?_
  refine v_iand (pc := 4) dX4_bitOf_4 ?_
  refine v_iret (pc := 5) dX4_bitOf_5 rfl ⟨rfl, rfl⟩ (Rt.i ?_)
  rfl
/-- withBit -/
theorem c_X4_withBit (l : Launch) (E : VE) (b : Int32) (i : Int32) (P : Prop) (dP : Decidable P) : Ct l E yX4_withBit cX4_withBit 3 (Option.some FieldType.int) 0 0 0 0 [.int (b), .int (i), .int (if P then 1 else 0)] [] (Rt (some (.int (wb b i P))) []) := by
  refine Ct.of (own := RX4) (nm := "withBit") (lv := [(0, .int (b)), (1, .int (i)), (2, .int (if P then 1 else 0))]) (by decide) rfl rfl (Nat.le_of_ble_eq_true rfl) rfl ?_
  refine v_iload_n (pc := 0) 2 dX4_withBit_0 rfl rfl ?_
  refine v_ifB_eq (pc := 1) 12 dX4_withBit_1 (by decide) (fun c_1 => ?_) (fun c_1 => ?_)
  · skip
    refine v_iload_n (pc := 12) 0 dX4_withBit_12 rfl rfl ?_
    refine v_iconst (pc := 13) (v := 1) dX4_withBit_13 (by decide) ?_
    refine v_iload_n (pc := 14) 1 dX4_withBit_14 rfl rfl ?_
    refine v_ishl (pc := 15) dX4_withBit_15 ?_
    refine v_iconst (pc := 16) (v := -1) dX4_withBit_16 (by decide) ?_
    refine v_ixor (pc := 17) dX4_withBit_17 ?_
    refine v_iand (pc := 18) dX4_withBit_18 ?_
    refine v_iret (pc := 19) dX4_withBit_19 rfl ⟨rfl, rfl⟩ (Rt.i ?_)
    unfold wb; simp [*]
  · skip
    refine v_iload_n (pc := 4) 0 dX4_withBit_4 rfl rfl ?_
    refine v_iconst (pc := 5) (v := 1) dX4_withBit_5 (by decide) ?_
    refine v_iload_n (pc := 6) 1 dX4_withBit_6 rfl rfl ?_
    refine v_ishl (pc := 7) dX4_withBit_7 ?_
    refine v_ior (pc := 8) dX4_withBit_8 ?_
    refine v_goto (pc := 9) 19 dX4_withBit_9 (by decide) ?_
    refine v_iret (pc := 19) dX4_withBit_19 rfl ⟨rfl, rfl⟩ (Rt.i ?_)
    unfold wb; simp [*]
theorem c_X4_isYesNo (l : Launch) (E : VE) (w : Int32) : Ct l E yX4_isYesNo cX4_isYesNo 1 (Option.some FieldType.boolean) 0 0 0 0 [.int (w)] [] (Rt (some (.int (if w = 0 ∨ w = 1 then 1 else 0))) []) := by
  refine Ct.of (own := RX4) (nm := "isYesNo") (lv := [(0, .int (w))]) (by decide) rfl rfl (Nat.le_of_ble_eq_true rfl) rfl ?_
  refine v_iload_n (pc := 0) 0 dX4_isYesNo_0 rfl rfl ?_
  refine v_if_eq (pc := 1) 9 dX4_isYesNo_1 (by decide) (fun c_1 => ?_) (fun c_1 => ?_)
  · skip
    refine v_iconst (pc := 9) (v := 1) dX4_isYesNo_9 (by decide) ?_
    refine v_goto (pc := 10) 14 dX4_isYesNo_10 (by decide) ?_
    refine v_zret (pc := 14) dX4_isYesNo_14 rfl rfl ⟨rfl, rfl⟩ (Rt.i ?_)
    simp [*]
  · skip
    refine v_iload_n (pc := 4) 0 dX4_isYesNo_4 rfl rfl ?_
    refine v_iconst (pc := 5) (v := 1) dX4_isYesNo_5 (by decide) ?_
    refine v_icmp_ne (pc := 6) 13 dX4_isYesNo_6 (by decide) (fun c_6 => ?_) (fun c_6 => ?_)
    · skip
      refine v_iconst (pc := 13) (v := 0) dX4_isYesNo_13 (by decide) ?_
      refine v_zret (pc := 14) dX4_isYesNo_14 rfl rfl ⟨rfl, rfl⟩ (Rt.i ?_)
      simp [*]
    · skip
      refine v_iconst (pc := 9) (v := 1) dX4_isYesNo_9 (by decide) ?_
      refine v_goto (pc := 10) 14 dX4_isYesNo_10 (by decide) ?_
      refine v_zret (pc := 14) dX4_isYesNo_14 rfl rfl ⟨rfl, rfl⟩ (Rt.i ?_)
      simp [*]
theorem c_X4_isSheet (l : Launch) (E : VE) (k : Int32) : Ct l E yX4_isSheet cX4_isSheet 1 (Option.some FieldType.boolean) 0 0 0 0 [.int (k)] [] (Rt (some (.int (if ¬ k < 0 ∧ ¬ 4 ≤ k then 1 else 0))) []) := by
  refine Ct.of (own := RX4) (nm := "isSheet") (lv := [(0, .int (k))]) (by decide) rfl rfl (Nat.le_of_ble_eq_true rfl) rfl ?_
  refine v_iload_n (pc := 0) 0 dX4_isSheet_0 rfl rfl ?_
  refine v_if_lt (pc := 1) 13 dX4_isSheet_1 (by decide) (fun c_1 => ?_) (fun c_1 => ?_)
  · skip
    refine v_iconst (pc := 13) (v := 0) dX4_isSheet_13 (by decide) ?_
    refine v_zret (pc := 14) dX4_isSheet_14 rfl rfl ⟨rfl, rfl⟩ (Rt.i ?_)
    simp [*]
  · skip
    refine v_iload_n (pc := 4) 0 dX4_isSheet_4 rfl rfl ?_
    refine v_iconst (pc := 5) (v := 4) dX4_isSheet_5 (by decide) ?_
    refine v_icmp_ge (pc := 6) 13 dX4_isSheet_6 (by decide) (fun c_6 => ?_) (fun c_6 => ?_)
    · skip
      refine v_iconst (pc := 13) (v := 0) dX4_isSheet_13 (by decide) ?_
      refine v_zret (pc := 14) dX4_isSheet_14 rfl rfl ⟨rfl, rfl⟩ (Rt.i ?_)
      simp [*]
    · skip
      refine v_iconst (pc := 9) (v := 1) dX4_isSheet_9 (by decide) ?_
      refine v_goto (pc := 10) 14 dX4_isSheet_10 (by decide) ?_
      refine v_zret (pc := 14) dX4_isSheet_14 rfl rfl ⟨rfl, rfl⟩ (Rt.i ?_)
      simp [*]
theorem c_X4_isLane (l : Launch) (E : VE) (k : Int32) : Ct l E yX4_isLane cX4_isLane 1 (Option.some FieldType.boolean) 0 0 0 0 [.int (k)] [] (Rt (some (.int (if ¬ k < 0 ∧ ¬ 3 ≤ k then 1 else 0))) []) := by
  refine Ct.of (own := RX4) (nm := "isLane") (lv := [(0, .int (k))]) (by decide) rfl rfl (Nat.le_of_ble_eq_true rfl) rfl ?_
  refine v_iload_n (pc := 0) 0 dX4_isLane_0 rfl rfl ?_
  refine v_if_lt (pc := 1) 13 dX4_isLane_1 (by decide) (fun c_1 => ?_) (fun c_1 => ?_)
  · skip
    refine v_iconst (pc := 13) (v := 0) dX4_isLane_13 (by decide) ?_
    refine v_zret (pc := 14) dX4_isLane_14 rfl rfl ⟨rfl, rfl⟩ (Rt.i ?_)
    simp [*]
  · skip
    refine v_iload_n (pc := 4) 0 dX4_isLane_4 rfl rfl ?_
    refine v_iconst (pc := 5) (v := 3) dX4_isLane_5 (by decide) ?_
    refine v_icmp_ge (pc := 6) 13 dX4_isLane_6 (by decide) (fun c_6 => ?_) (fun c_6 => ?_)
    · skip
      refine v_iconst (pc := 13) (v := 0) dX4_isLane_13 (by decide) ?_
      refine v_zret (pc := 14) dX4_isLane_14 rfl rfl ⟨rfl, rfl⟩ (Rt.i ?_)
      simp [*]
    · skip
      refine v_iconst (pc := 9) (v := 1) dX4_isLane_9 (by decide) ?_
      refine v_goto (pc := 10) 14 dX4_isLane_10 (by decide) ?_
      refine v_zret (pc := 14) dX4_isLane_14 rfl rfl ⟨rfl, rfl⟩ (Rt.i ?_)
      simp [*]
theorem c_X3_isLetter (l : Launch) (E : VE) (c : Int32) : Ct l E yX3_isLetter cX3_isLetter 1 (Option.some FieldType.boolean) 0 0 0 0 [.int (c)] [] (Rt (some (.int (if ¬ c < 97 ∧ ¬ 122 < c then 1 else 0))) []) := by
  refine Ct.of (own := RX3) (nm := "isLetter") (lv := [(0, .int (c))]) (by decide) rfl rfl (Nat.le_of_ble_eq_true rfl) rfl ?_
  refine v_iload_n (pc := 0) 0 dX3_isLetter_0 rfl rfl ?_
  refine v_bipush (pc := 1) (v := 97) dX3_isLetter_1 (by decide) ?_
  refine v_icmp_lt (pc := 3) 16 dX3_isLetter_3 (by decide) (fun c_3 => ?_) (fun c_3 => ?_)
  · skip
    refine v_iconst (pc := 16) (v := 0) dX3_isLetter_16 (by decide) ?_
    refine v_zret (pc := 17) dX3_isLetter_17 rfl rfl ⟨rfl, rfl⟩ (Rt.i ?_)
    simp [*]
  · skip
    refine v_iload_n (pc := 6) 0 dX3_isLetter_6 rfl rfl ?_
    refine v_bipush (pc := 7) (v := 122) dX3_isLetter_7 (by decide) ?_
    refine v_icmp_gt (pc := 9) 16 dX3_isLetter_9 (by decide) (fun c_9 => ?_) (fun c_9 => ?_)
    · skip
      refine v_iconst (pc := 16) (v := 0) dX3_isLetter_16 (by decide) ?_
      refine v_zret (pc := 17) dX3_isLetter_17 rfl rfl ⟨rfl, rfl⟩ (Rt.i ?_)
      simp [*]
    · skip
      refine v_iconst (pc := 12) (v := 1) dX3_isLetter_12 (by decide) ?_
      refine v_goto (pc := 13) 17 dX3_isLetter_13 (by decide) ?_
      refine v_zret (pc := 17) dX3_isLetter_17 rfl rfl ⟨rfl, rfl⟩ (Rt.i ?_)
      simp [*]
theorem c_X3_isFigure (l : Launch) (E : VE) (c : Int32) : Ct l E yX3_isFigure cX3_isFigure 1 (Option.some FieldType.boolean) 0 0 0 0 [.int (c)] [] (Rt (some (.int (if ¬ c < 48 ∧ ¬ 57 < c then 1 else 0))) []) := by
  refine Ct.of (own := RX3) (nm := "isFigure") (lv := [(0, .int (c))]) (by decide) rfl rfl (Nat.le_of_ble_eq_true rfl) rfl ?_
  refine v_iload_n (pc := 0) 0 dX3_isFigure_0 rfl rfl ?_
  refine v_bipush (pc := 1) (v := 48) dX3_isFigure_1 (by decide) ?_
  refine v_icmp_lt (pc := 3) 16 dX3_isFigure_3 (by decide) (fun c_3 => ?_) (fun c_3 => ?_)
  · skip
    refine v_iconst (pc := 16) (v := 0) dX3_isFigure_16 (by decide) ?_
    refine v_zret (pc := 17) dX3_isFigure_17 rfl rfl ⟨rfl, rfl⟩ (Rt.i ?_)
    simp [*]
  · skip
    refine v_iload_n (pc := 6) 0 dX3_isFigure_6 rfl rfl ?_
    refine v_bipush (pc := 7) (v := 57) dX3_isFigure_7 (by decide) ?_
    refine v_icmp_gt (pc := 9) 16 dX3_isFigure_9 (by decide) (fun c_9 => ?_) (fun c_9 => ?_)
    · skip
      refine v_iconst (pc := 16) (v := 0) dX3_isFigure_16 (by decide) ?_
      refine v_zret (pc := 17) dX3_isFigure_17 rfl rfl ⟨rfl, rfl⟩ (Rt.i ?_)
      simp [*]
    · skip
      refine v_iconst (pc := 12) (v := 1) dX3_isFigure_12 (by decide) ?_
      refine v_goto (pc := 13) 17 dX3_isFigure_13 (by decide) ?_
      refine v_zret (pc := 17) dX3_isFigure_17 rfl rfl ⟨rfl, rfl⟩ (Rt.i ?_)
      simp [*]
theorem c_X5_in (l : Launch) (E : VE) (v : Int64) (a : Int64) (b : Int64) : Ct l E yX5_in cX5_in 6 (Option.some FieldType.boolean) 0 0 0 0 [.long (v), .long (a), .long (b)] [] (Rt (some (.int (if ¬ v < a ∧ ¬ b < v then 1 else 0))) []) := by
  refine Ct.of (own := RX5) (nm := "in") (lv := [(0, .long (v)), (2, .long (a)), (4, .long (b))]) (by decide) rfl rfl (Nat.le_of_ble_eq_true rfl) rfl ?_
  refine v_lload_n (pc := 0) 0 dX5_in_0 rfl rfl ?_
  refine v_lload_n (pc := 1) 1 dX5_in_1 rfl rfl ?_
  refine v_lcmp (pc := 2) dX5_in_2 ?_
  refine v_lc_lt (pc := 3) 17 dX5_in_3 (by decide) (fun c_3 => ?_) (fun c_3 => ?_)
  · skip
    refine v_iconst (pc := 17) (v := 0) dX5_in_17 (by decide) ?_
    refine v_zret (pc := 18) dX5_in_18 rfl rfl ⟨rfl, rfl⟩ (Rt.i ?_)
    simp [*]
  · skip
    refine v_lload_n (pc := 6) 0 dX5_in_6 rfl rfl ?_
    refine v_lload (pc := 7) 2 dX5_in_7 rfl ?_
    refine v_lcmp (pc := 9) dX5_in_9 ?_
    refine v_lc_gt (pc := 10) 17 dX5_in_10 (by decide) (fun c_10 => ?_) (fun c_10 => ?_)
    · skip
      refine v_iconst (pc := 17) (v := 0) dX5_in_17 (by decide) ?_
      refine v_zret (pc := 18) dX5_in_18 rfl rfl ⟨rfl, rfl⟩ (Rt.i ?_)
      simp [*]
    · skip
      refine v_iconst (pc := 13) (v := 1) dX5_in_13 (by decide) ?_
      refine v_goto (pc := 14) 18 dX5_in_14 (by decide) ?_
      refine v_zret (pc := 18) dX5_in_18 rfl rfl ⟨rfl, rfl⟩ (Rt.i ?_)
      simp [*]
