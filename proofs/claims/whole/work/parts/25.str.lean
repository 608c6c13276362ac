/-- the name i stands at sa, as far as its first k letters -/
def eqB (b : Nat → Int32) (sa i : Nat) : Nat → Bool
  | 0 => true
  | k + 1 => eqB b sa i k && decide (b (sa + k) = (bytS.getD i []).getD k 0)
theorem eqB_no {b : Nat → Int32} {sa i k : Nat} (h : ¬ b (sa + k) = (bytS.getD i []).getD k 0) : ∀ m, k < m → eqB b sa i m = false := by
  intro m
  induction m with
  | zero => intro h; omega
  | succ m ih =>
    intro hk
    simp only [eqB]
    by_cases e : k = m
    · subst e; rw [decide_eq_false h, Bool.and_false]
    · rw [ih (by omega), Bool.false_and]
theorem c_J0_coder_7d493 (l : Launch) (E : VE) (i : Nat) (h_i : i < 8) : Ct l E yJ0_coder_7d493 cJ0_coder_7d493 1 (Option.some FieldType.byte) 0 0 0 0 [.ref (E.2.2.2.1 i)] [] (Rt (some (.int (0))) []) := by
  refine Ct.of (own := RJ0) (nm := "coder") (lv := [(0, .ref (E.2.2.2.1 i))]) (by decide) rfl rfl (Nat.le_of_ble_eq_true rfl) rfl ?_
  refine v_gsCS (pc := 0) rfl dJ0_coder_7d493_0 ?_
  refine v_if_eq (pc := 3) 13 dJ0_coder_7d493_3 (by decide) (fun c => absurd c (by decide)) (fun _ => ?_)
  refine v_aload_n (pc := 6) 0 dJ0_coder_7d493_6 rfl rfl ?_
  refine v_scod (pc := 7) i h_i rfl dJ0_coder_7d493_7 ?_
  refine v_goto (pc := 10) 14 dJ0_coder_7d493_10 (by decide) ?_
  refine v_zret (pc := 14) dJ0_coder_7d493_14 rfl rfl ⟨rfl, rfl⟩ (Rt.i ?_)
  rfl
theorem c_J0_isLatin1_aae02 (l : Launch) (E : VE) (i : Nat) (h_i : i < 8) : Ct l E yJ0_isLatin1_aae02 cJ0_isLatin1_aae02 1 (Option.some FieldType.boolean) 0 0 0 0 [.ref (E.2.2.2.1 i)] [] (Rt (some (.int (1))) []) := by
  refine Ct.of (own := RJ0) (nm := "isLatin1") (lv := [(0, .ref (E.2.2.2.1 i))]) (by decide) rfl rfl (Nat.le_of_ble_eq_true rfl) rfl ?_
  refine v_gsCS (pc := 0) rfl dJ0_isLatin1_aae02_0 ?_
  refine v_if_eq (pc := 3) 17 dJ0_isLatin1_aae02_3 (by decide) (fun c => absurd c (by decide)) (fun _ => ?_)
  refine v_aload_n (pc := 6) 0 dJ0_isLatin1_aae02_6 rfl rfl ?_
  refine v_scod (pc := 7) i h_i rfl dJ0_isLatin1_aae02_7 ?_
  refine v_if_ne (pc := 10) 17 dJ0_isLatin1_aae02_10 (by decide) (fun c => absurd c (by decide)) (fun _ => ?_)
  refine v_iconst (pc := 13) (v := 1) dJ0_isLatin1_aae02_13 (by decide) ?_
  refine v_goto (pc := 14) 18 dJ0_isLatin1_aae02_14 (by decide) ?_
  refine v_zret (pc := 18) dJ0_isLatin1_aae02_18 rfl rfl ⟨rfl, rfl⟩ (Rt.i ?_)
  rfl
theorem c_J0_length_8abf5 (l : Launch) (E : VE) (i : Nat) (h_i : i < 8) : Ct l E yJ0_length_8abf5 cJ0_length_8abf5 1 (Option.some FieldType.int) 1 20 0 0 [.ref (E.2.2.2.1 i)] [] (Rt (some (.int (nI (lenS.getD i 0)))) []) := by
  refine Ct.of (own := RJ0) (nm := "length") (lv := [(0, .ref (E.2.2.2.1 i))]) (by decide) rfl rfl (Nat.le_of_ble_eq_true rfl) rfl ?_
  refine v_aload_n (pc := 0) 0 dJ0_length_8abf5_0 rfl rfl ?_
  refine v_sval (pc := 1) i h_i rfl dJ0_length_8abf5_1 ?_
  refine v_slen (pc := 4) i h_i dJ0_length_8abf5_4 ?_
  refine v_aload_n (pc := 5) 0 dJ0_length_8abf5_5 rfl rfl ?_
  refine v_callVS (pc := 6) (rest := [.int (nI (lenS.getD i 0))]) i h_i lk_328 (c_J0_coder_7d493 l E i (by first | assumption | omega)) dJ0_length_8abf5_6 rfl rfl (Nat.le_of_ble_eq_true rfl) (by decide) (Rt.len rfl) (Rt.go ?_)
  refine v_w (ws' := []) rfl ?_
  refine v_st (st' := [.int (0), .int (nI (lenS.getD i 0))]) rfl ?_
  refine v_ishr (pc := 9) dJ0_length_8abf5_9 ?_
  refine v_iret (pc := 10) dJ0_length_8abf5_10 rfl ⟨rfl, rfl⟩ (Rt.i ?_)
  exact sc_shr0 (by have := lenS6 i h_i; omega)
theorem cN_J3_checkIndex (l : Launch) (E : VE) (k : Nat) (N : Nat) (h_k : k < N) (h_N : N < 2 ^ 31) : Ct l E yJ3_checkIndex_8e157 cJ3_checkIndex_8e157 3 (Option.some FieldType.int) 0 0 0 0 [.int (nI k), .int (nI N), .null] [] (Rt (some (.int (nI k))) []) := by
  refine Ct.of (own := RJ3) (nm := "checkIndex") (lv := [(0, .int (nI k)), (1, .int (nI N)), (2, .null)]) (by decide) rfl rfl (Nat.le_of_ble_eq_true rfl) rfl ?_
  refine v_iload_n (pc := 0) 0 dJ3_checkIndex_8e157_0 rfl rfl ?_
  refine v_ifN_lt (pc := 1) (a := k) 9 dJ3_checkIndex_8e157_1 (by decide) (by omega) ?_
  refine v_iload_n (pc := 4) 0 dJ3_checkIndex_8e157_4 rfl rfl ?_
  refine v_iload_n (pc := 5) 1 dJ3_checkIndex_8e157_5 rfl rfl ?_
  refine v_cmpN_lt (pc := 6) (a := k) (b := N) 16 dJ3_checkIndex_8e157_6 (by decide) (by omega) (by omega) (fun c_6 => ?_) (fun c_6 => ?_)
  · skip
    refine v_iload_n (pc := 16) 0 dJ3_checkIndex_8e157_16 rfl rfl ?_
    refine v_iret (pc := 17) dJ3_checkIndex_8e157_17 rfl ⟨rfl, rfl⟩ (Rt.i ?_)
    first | simp only [if_pos c_6] | rfl
  · skip
    exact absurd h_k (by omega)
theorem cR_J3_checkIndex (l : Launch) (E : VE) (k : Nat) (N : Nat) (t : Nat) (h_k : k < N) (h_N : N < 2 ^ 31) : Ct l E yJ3_checkIndex_8e157 cJ3_checkIndex_8e157 3 (Option.some FieldType.int) 0 0 0 0 [.int (nI k), .int (nI N), .ref t] [] (Rt (some (.int (nI k))) []) := by
  refine Ct.of (own := RJ3) (nm := "checkIndex") (lv := [(0, .int (nI k)), (1, .int (nI N)), (2, .ref t)]) (by decide) rfl rfl (Nat.le_of_ble_eq_true rfl) rfl ?_
  refine v_iload_n (pc := 0) 0 dJ3_checkIndex_8e157_0 rfl rfl ?_
  refine v_ifN_lt (pc := 1) (a := k) 9 dJ3_checkIndex_8e157_1 (by decide) (by omega) ?_
  refine v_iload_n (pc := 4) 0 dJ3_checkIndex_8e157_4 rfl rfl ?_
  refine v_iload_n (pc := 5) 1 dJ3_checkIndex_8e157_5 rfl rfl ?_
  refine v_cmpN_lt (pc := 6) (a := k) (b := N) 16 dJ3_checkIndex_8e157_6 (by decide) (by omega) (by omega) (fun c_6 => ?_) (fun c_6 => ?_)
  · skip
    refine v_iload_n (pc := 16) 0 dJ3_checkIndex_8e157_16 rfl rfl ?_
    refine v_iret (pc := 17) dJ3_checkIndex_8e157_17 rfl ⟨rfl, rfl⟩ (Rt.i ?_)
    first | simp only [if_pos c_6] | rfl
  · skip
    exact absurd h_k (by omega)
theorem c_J0_checkIndex_df160 (l : Launch) (E : VE) (k : Nat) (N : Nat) (h_k : k < N) (h_N : N < 2 ^ 31) : Ct l E yJ0_checkIndex_df160 cJ0_checkIndex_df160 2 (Option.none : Option Jvm.ClassFile.FieldType) 1 22 0 0 [.int (nI k), .int (nI N)] [] (Rt none []) := by
  refine Ct.of (own := RJ0) (nm := "checkIndex") (lv := [(0, .int (nI k)), (1, .int (nI N))]) (by decide) rfl rfl (Nat.le_of_ble_eq_true rfl) rfl ?_
  refine v_iload_n (pc := 0) 0 dJ0_checkIndex_df160_0 rfl rfl ?_
  refine v_iload_n (pc := 1) 1 dJ0_checkIndex_df160_1 rfl rfl ?_
  refine v_gsSF (pc := 2) rfl dJ0_checkIndex_df160_2 ?_ (fun tS => ?_)
  · skip
    refine v_callS (pc := 5) (rest := []) [] lk_350 (cN_J3_checkIndex l E k N (by first | assumption | omega) (by first | assumption | omega)) dJ0_checkIndex_df160_5 rfl rfl (Nat.le_of_ble_eq_true rfl) (by decide) (by decide) rfl (Rt.len rfl) (Rt.go ?_)
    refine v_w (ws' := []) rfl ?_
    refine v_st (st' := [.int (nI k)]) rfl ?_
    refine v_pop (pc := 8) dJ0_checkIndex_df160_8 rfl ?_
    refine v_vret (pc := 9) dJ0_checkIndex_df160_9 rfl ⟨rfl, rfl⟩ (Rt.w ?_)
    rfl
  · skip
    refine v_callS (pc := 5) (rest := []) [] lk_350 (cR_J3_checkIndex l E k N tS (by first | assumption | omega) (by first | assumption | omega)) dJ0_checkIndex_df160_5 rfl rfl (Nat.le_of_ble_eq_true rfl) (by decide) (by decide) rfl (Rt.len rfl) (Rt.go ?_)
    refine v_w (ws' := []) rfl ?_
    refine v_st (st' := [.int (nI k)]) rfl ?_
    refine v_pop (pc := 8) dJ0_checkIndex_df160_8 rfl ?_
    refine v_vret (pc := 9) dJ0_checkIndex_df160_9 rfl ⟨rfl, rfl⟩ (Rt.w ?_)
    rfl
theorem c_J1_charAt_3b067 (l : Launch) (E : VE) (i : Nat) (h_i : i < 8) (k : Nat) (h_k : k < lenS.getD i 0) : Ct l E yJ1_charAt_3b067 cJ1_charAt_3b067 2 (Option.some FieldType.char) 2 43 0 0 [.ref (E.2.2.2.2 i), .int (nI k)] [] (Rt (some (.int ((bytS.getD i []).getD k 0))) []) := by
  refine Ct.of (own := RJ1) (nm := "charAt") (lv := [(0, .ref (E.2.2.2.2 i)), (1, .int (nI k))]) (by decide) rfl rfl (Nat.le_of_ble_eq_true rfl) rfl ?_
  refine v_iload_n (pc := 0) 1 dJ1_charAt_3b067_0 rfl rfl ?_
  refine v_aload_n (pc := 1) 0 dJ1_charAt_3b067_1 rfl rfl ?_
  refine v_slen (pc := 2) i h_i dJ1_charAt_3b067_2 ?_
  refine v_callS (pc := 3) (rest := []) [] lk_345 (c_J0_checkIndex_df160 l E k (lenS.getD i 0) h_k (by have := lenS6 i h_i; omega)) dJ1_charAt_3b067_3 rfl rfl (Nat.le_of_ble_eq_true rfl) (by decide) (by decide) rfl (Rt.len rfl) (Rt.go ?_)
  refine v_w (ws' := []) rfl ?_
  refine v_st (st' := []) rfl ?_
  refine v_aload_n (pc := 6) 0 dJ1_charAt_3b067_6 rfl rfl ?_
  refine v_iload_n (pc := 7) 1 dJ1_charAt_3b067_7 rfl rfl ?_
  refine v_sbld (pc := 8) i k h_i rfl h_k dJ1_charAt_3b067_8 ?_
  refine v_sipush (pc := 9) (v := 255) dJ1_charAt_3b067_9 (by decide) ?_
  refine v_iand (pc := 12) dJ1_charAt_3b067_12 ?_
  refine v_i2c (pc := 13) dJ1_charAt_3b067_13 rfl ?_
  refine v_st (st' := [.int ((bytS.getD i []).getD k 0)]) (by rw [(chS_all i h_i k h_k).1]) ?_
  refine v_zret (pc := 14) dJ1_charAt_3b067_14 rfl (chS_all i h_i k h_k).2 ⟨rfl, rfl⟩ (Rt.i ?_)
  rfl
theorem c_J0_charAt_5068e (l : Launch) (E : VE) (i : Nat) (h_i : i < 8) (k : Nat) (h_k : k < lenS.getD i 0) : Ct l E yJ0_charAt_5068e cJ0_charAt_5068e 2 (Option.some FieldType.char) 3 64 0 0 [.ref (E.2.2.2.1 i), .int (nI k)] [] (Rt (some (.int ((bytS.getD i []).getD k 0))) []) := by
  refine Ct.of (own := RJ0) (nm := "charAt") (lv := [(0, .ref (E.2.2.2.1 i)), (1, .int (nI k))]) (by decide) rfl rfl (Nat.le_of_ble_eq_true rfl) rfl ?_
  refine v_aload_n (pc := 0) 0 dJ0_charAt_5068e_0 rfl rfl ?_
  refine v_callVS (pc := 1) (rest := []) i h_i lk_338 (c_J0_isLatin1_aae02 l E i (by first | assumption | omega)) dJ0_charAt_5068e_1 rfl rfl (Nat.le_of_ble_eq_true rfl) (by decide) (Rt.len rfl) (Rt.go ?_)
  refine v_w (ws' := []) rfl ?_
  refine v_st (st' := [.int (1)]) rfl ?_
  refine v_if_eq (pc := 4) 16 dJ0_charAt_5068e_4 (by decide) (fun c => absurd c (by decide)) (fun _ => ?_)
  refine v_aload_n (pc := 7) 0 dJ0_charAt_5068e_7 rfl rfl ?_
  refine v_sval (pc := 8) i h_i rfl dJ0_charAt_5068e_8 ?_
  refine v_iload_n (pc := 11) 1 dJ0_charAt_5068e_11 rfl rfl ?_
  refine v_callS (pc := 12) (rest := []) [] lk_342 (c_J1_charAt_3b067 l E i (by first | assumption | omega) k (by first | assumption | omega)) dJ0_charAt_5068e_12 rfl rfl (Nat.le_of_ble_eq_true rfl) (by decide) (by decide) rfl (Rt.len rfl) (Rt.go ?_)
  refine v_w (ws' := []) rfl ?_
  refine v_st (st' := [.int ((bytS.getD i []).getD k 0)]) rfl ?_
  refine v_zret (pc := 15) dJ0_charAt_5068e_15 rfl (chS_all i h_i k h_k).2 ⟨rfl, rfl⟩ (Rt.i ?_)
  rfl
