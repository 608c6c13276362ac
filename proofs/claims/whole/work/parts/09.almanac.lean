/-- for all sets at once: bit s of a long stands for the set s -/
def setsK (nd br : Int32) : Nat → Int64
  | 0 => -1
  | n + 1 => if bt1 br (nI n) = 1 then (if bt1 nd (nI n) = 1 then setsK nd br n &&& HVj n else setsK nd br n) &&& (HVj n ^^^ -1) else (if bt1 nd (nI n) = 1 then setsK nd br n &&& HVj n else setsK nd br n)
def openF (ah : Int32) (on nd br : Nat → Int32) (f : Nat → Int64) (n : Nat) : Nat → Int64 := fun j => if j < n then (if bt1 ah (on j) = 1 then 0 else setsK (nd j) (br j) 6) else f j
theorem openF_0 (ah : Int32) (on nd br : Nat → Int32) (f : Nat → Int64) : openF ah on nd br f 0 = f := by funext j; simp [openF]
theorem openF_s (ah : Int32) (on nd br : Nat → Int32) (f : Nat → Int64) (n : Nat) (v : Int64) (h : v = if bt1 ah (on n) = 1 then 0 else setsK (nd n) (br n) 6) : vp_updL (openF ah on nd br f n) n v = openF ah on nd br f (n + 1) := by
  funext j
  unfold openF vp_updL
  by_cases h1 : j = n
  · subst h1; simp [h]
  · by_cases h2 : j < n
    · simp [h1, h2, Nat.lt_succ_of_lt h2]
    · simp [h1, h2, show ¬ j < n + 1 by omega]
def brgK (ch : Int32) (w : Nat → Nat) (hf bg : Nat → Int64) : Nat → (Nat → Int64)
  | 0 => bg
  | n + 1 => if bt1 ch (nI n) = 1 then vp_updL (brgK ch w hf bg n) (w n) (brgK ch w hf bg n (w n) ||| hf n) else brgK ch w hf bg n
def agrK (sp : Int32) (bg : Nat → Int64) (s0 : Int64) : Nat → Int64
  | 0 => s0
  | n + 1 => agrK sp bg s0 n &&& (((if bt1 sp (nI n) = 1 then 0 else bg n) ^^^ HVj n) ^^^ -1)
def allS (nt : Nat) : Int64 := if nt < 6 then (1 : Int64) <<< (Int32.toInt64 ((1 : Int32) <<< (nI nt &&& 31)) &&& 63) - 1 else -1
def agr (nt rl : Nat) (w : Nat → Nat) (ch sp : Int32) (hf bg : Nat → Int64) : Int64 := agrK sp (brgK ch w hf (fillI bg 0 6) rl) (allS nt) nt
theorem c_X0_setsOf (l : Launch) (E : VE) (nd : Int32) (br : Int32) : Ct l E yX0_setsOf cX0_setsOf 5 (Option.some FieldType.long) 1 21 0 0 [.int (nd), .int (br)] [] (Rt (some (.long (setsK nd br 6))) []) := by
  refine Ct.of (own := RX0) (nm := "setsOf") (lv := [(0, .int (nd)), (1, .int (br))]) (by decide) rfl rfl (Nat.le_of_ble_eq_true rfl) rfl ?_
  refine v_ldc2 (pc := 0) dX0_setsOf_0 tb_551 ?_
  refine v_lstore_n (pc := 3) (lv' := [(2, .long ((-1))), (0, .int (nd)), (1, .int (br))]) dX0_setsOf_3 rfl (by decide) rfl ?_
  refine v_iconst (pc := 4) (v := 0) dX0_setsOf_4 (by decide) ?_
  refine v_istore (pc := 5) (lv' := [(4, .int (0)), (2, .long ((-1))), (0, .int (nd)), (1, .int (br))]) dX0_setsOf_5 (by decide) rfl ?_
  have loop_7 : ∀ (D_7 : Nat) (i : Nat) (acc : Int64), 6 - i < D_7 → (i ≤ 6) → (acc = setsK nd br i) → V l E RX0 cX0_setsOf 5 (Option.some FieldType.long) "setsOf" ({ frames := 1, cells := 0, slots := 0, locals := 21 }) [] 0 0 (Rt (some (.long (setsK nd br 6))) []) 0 0 7 [(4, .int (nI i)), (2, .long (acc)), (0, .int (nd)), (1, .int (br))] [] [] := by
    intro D_7
    induction D_7 with
    | zero => intro i acc h; exact absurd h (Nat.not_lt_zero _)
    | succ D_7 ih_7 =>
      intro i acc hmu_7 h_7_0 h_7_1
      refine v_iload (pc := 7) 0 dX0_setsOf_7 rfl ?_
      refine v_bipush (pc := 9) (v := 6) dX0_setsOf_9 (by decide) ?_
      refine v_cmpN_ge (pc := 11) (a := i) (b := 6) 62 dX0_setsOf_11 (by decide) (by omega) (by omega) (fun c_11 => ?_) (fun c_11 => ?_)
      · skip
        refine v_lload_n (pc := 62) 1 dX0_setsOf_62 rfl rfl ?_
        refine v_lret (pc := 63) dX0_setsOf_63 rfl ⟨rfl, rfl⟩ (Rt.lg ?_)
        obtain rfl : i = 6 := by omega
        exact h_7_1
      · skip
        refine v_iload_n (pc := 14) 2 dX0_setsOf_14 rfl rfl ?_
        refine v_iload (pc := 15) 0 dX0_setsOf_15 rfl ?_
        refine v_callBit (pc := 17) (rest := []) [] (by decide) tb_399 tb_58 tb_398 (c_X4_bitOf l E nd (nI i)) dX0_setsOf_17 rfl rfl (Nat.le_of_ble_eq_true rfl) (by decide) (by decide) rfl (Rt.len rfl) (Rt.go ?_)
        refine v_w (ws' := []) rfl ?_
        refine v_st (st' := [.int (bt1 nd (nI i))]) rfl ?_
        refine v_iconst (pc := 20) (v := 1) dX0_setsOf_20 (by decide) ?_
        refine v_icmp_ne (pc := 21) 33 dX0_setsOf_21 (by decide) (fun c_21 => ?_) (fun c_21 => ?_)
        · skip
          refine v_iload_n (pc := 33) 3 dX0_setsOf_33 rfl rfl ?_
          refine v_iload (pc := 34) 0 dX0_setsOf_34 rfl ?_
          refine v_callBit (pc := 36) (rest := []) [] (by decide) tb_399 tb_58 tb_398 (c_X4_bitOf l E br (nI i)) dX0_setsOf_36 rfl rfl (Nat.le_of_ble_eq_true rfl) (by decide) (by decide) rfl (Rt.len rfl) (Rt.go ?_)
          refine v_w (ws' := []) rfl ?_
          refine v_st (st' := [.int (bt1 br (nI i))]) rfl ?_
          refine v_iconst (pc := 39) (v := 1) dX0_setsOf_39 (by decide) ?_
          refine v_icmp_ne (pc := 40) 56 dX0_setsOf_40 (by decide) (fun c_40 => ?_) (fun c_40 => ?_)
          · skip
            refine v_iinc (pc := 56) (v := nI (i + 1)) (lv' := [(4, .int (nI (i + 1))), (2, .long (acc)), (0, .int (nd)), (1, .int (br))]) 0 dX0_setsOf_56 rfl (nI_inc (i) 1) (by decide) rfl ?_
            refine v_goto (pc := 59) 7 dX0_setsOf_59 (by decide) ?_
            refine v_lv (lv' := [(4, .int (nI (i + 1))), (2, .long (acc)), (0, .int (nd)), (1, .int (br))]) [0, 1, 2, 3] rfl ?_
            refine ih_7 (i + 1) acc (by omega) ?_ ?_
            · omega
            · simp only [setsK]; rw [← h_7_1, if_neg c_40, if_neg c_21]
          · skip
            refine v_lload_n (pc := 43) 1 dX0_setsOf_43 rfl rfl ?_
            refine v_gsHVn (pc := 44) rfl dX0_setsOf_44 ?_
            refine v_iload (pc := 47) 0 dX0_setsOf_47 rfl ?_
            refine v_tlHVN (pc := 49) (i) dX0_setsOf_49 rfl (by omega) ?_
            refine v_ldc2 (pc := 50) dX0_setsOf_50 tb_551 ?_
            refine v_lxor (pc := 53) dX0_setsOf_53 ?_
            refine v_land (pc := 54) dX0_setsOf_54 ?_
            refine v_lstore_n (pc := 55) (lv' := [(2, .long ((acc) &&& ((HVj (i)) ^^^ ((-1))))), (4, .int (nI i)), (0, .int (nd)), (1, .int (br))]) dX0_setsOf_55 rfl (by decide) rfl ?_
            refine v_iinc (pc := 56) (v := nI (i + 1)) (lv' := [(4, .int (nI (i + 1))), (2, .long ((acc) &&& ((HVj (i)) ^^^ ((-1))))), (0, .int (nd)), (1, .int (br))]) 1 dX0_setsOf_56 rfl (nI_inc (i) 1) (by decide) rfl ?_
            refine v_goto (pc := 59) 7 dX0_setsOf_59 (by decide) ?_
            refine v_lv (lv' := [(4, .int (nI (i + 1))), (2, .long ((acc) &&& ((HVj (i)) ^^^ ((-1))))), (0, .int (nd)), (1, .int (br))]) [0, 1, 2, 3] rfl ?_
            refine ih_7 (i + 1) ((acc) &&& ((HVj (i)) ^^^ ((-1)))) (by omega) ?_ ?_
            · omega
            · simp only [setsK]; rw [← h_7_1, if_pos c_40, if_neg c_21]
        · skip
          refine v_lload_n (pc := 24) 1 dX0_setsOf_24 rfl rfl ?_
          refine v_gsHVn (pc := 25) rfl dX0_setsOf_25 ?_
          refine v_iload (pc := 28) 0 dX0_setsOf_28 rfl ?_
          refine v_tlHVN (pc := 30) (i) dX0_setsOf_30 rfl (by omega) ?_
          refine v_land (pc := 31) dX0_setsOf_31 ?_
          refine v_lstore_n (pc := 32) (lv' := [(2, .long ((acc) &&& (HVj (i)))), (4, .int (nI i)), (0, .int (nd)), (1, .int (br))]) dX0_setsOf_32 rfl (by decide) rfl ?_
          refine v_iload_n (pc := 33) 3 dX0_setsOf_33 rfl rfl ?_
          refine v_iload (pc := 34) 1 dX0_setsOf_34 rfl ?_
          refine v_callBit (pc := 36) (rest := []) [] (by decide) tb_399 tb_58 tb_398 (c_X4_bitOf l E br (nI i)) dX0_setsOf_36 rfl rfl (Nat.le_of_ble_eq_true rfl) (by decide) (by decide) rfl (Rt.len rfl) (Rt.go ?_)
          refine v_w (ws' := []) rfl ?_
          refine v_st (st' := [.int (bt1 br (nI i))]) rfl ?_
          refine v_iconst (pc := 39) (v := 1) dX0_setsOf_39 (by decide) ?_
          refine v_icmp_ne (pc := 40) 56 dX0_setsOf_40 (by decide) (fun c_40 => ?_) (fun c_40 => ?_)
          · skip
            refine v_iinc (pc := 56) (v := nI (i + 1)) (lv' := [(4, .int (nI (i + 1))), (2, .long ((acc) &&& (HVj (i)))), (0, .int (nd)), (1, .int (br))]) 1 dX0_setsOf_56 rfl (nI_inc (i) 1) (by decide) rfl ?_
            refine v_goto (pc := 59) 7 dX0_setsOf_59 (by decide) ?_
            refine v_lv (lv' := [(4, .int (nI (i + 1))), (2, .long ((acc) &&& (HVj (i)))), (0, .int (nd)), (1, .int (br))]) [0, 1, 2, 3] rfl ?_
            refine ih_7 (i + 1) ((acc) &&& (HVj (i))) (by omega) ?_ ?_
            · omega
            · simp only [setsK]; rw [← h_7_1, if_neg c_40, if_pos c_21]
          · skip
            refine v_lload_n (pc := 43) 0 dX0_setsOf_43 rfl rfl ?_
            refine v_gsHVn (pc := 44) rfl dX0_setsOf_44 ?_
            refine v_iload (pc := 47) 1 dX0_setsOf_47 rfl ?_
            refine v_tlHVN (pc := 49) (i) dX0_setsOf_49 rfl (by omega) ?_
            refine v_ldc2 (pc := 50) dX0_setsOf_50 tb_551 ?_
            refine v_lxor (pc := 53) dX0_setsOf_53 ?_
            refine v_land (pc := 54) dX0_setsOf_54 ?_
            refine v_lstore_n (pc := 55) (lv' := [(2, .long (((acc) &&& (HVj (i))) &&& ((HVj (i)) ^^^ ((-1))))), (4, .int (nI i)), (0, .int (nd)), (1, .int (br))]) dX0_setsOf_55 rfl (by decide) rfl ?_
            refine v_iinc (pc := 56) (v := nI (i + 1)) (lv' := [(4, .int (nI (i + 1))), (2, .long (((acc) &&& (HVj (i))) &&& ((HVj (i)) ^^^ ((-1))))), (0, .int (nd)), (1, .int (br))]) 1 dX0_setsOf_56 rfl (nI_inc (i) 1) (by decide) rfl ?_
            refine v_goto (pc := 59) 7 dX0_setsOf_59 (by decide) ?_
            refine v_lv (lv' := [(4, .int (nI (i + 1))), (2, .long (((acc) &&& (HVj (i))) &&& ((HVj (i)) ^^^ ((-1))))), (0, .int (nd)), (1, .int (br))]) [0, 1, 2, 3] rfl ?_
            refine ih_7 (i + 1) (((acc) &&& (HVj (i))) &&& ((HVj (i)) ^^^ ((-1)))) (by omega) ?_ ?_
            · omega
            · simp only [setsK]; rw [← h_7_1, if_pos c_40, if_pos c_21]
  refine v_lv (lv' := [(4, .int (nI 0)), (2, .long ((-1))), (0, .int (nd)), (1, .int (br))]) [0, 1, 2, 3] rfl ?_
  refine loop_7 ((6 - 0) + 1) 0 (-1) (Nat.lt_succ_self _) ?_ ?_
  · omega
  · rfl
theorem c_X0_open (l : Launch) (E : VE) (l0 : Nat) (lh : Nat) (lb : Nat) (a0 : Nat) (ao : Nat) (aw : Nat) (an : Nat) (ab : Nat) (av : Nat) (nt : Nat) (pp : Nat) (rl : Nat) (hm : Int32) (sp : Int32) (td : Int32) (dt : Int32) (on : Nat → Int32) (nd : Nat → Int32) (br : Nat → Int32) (ah : Int32) (hf : Nat → Int64) (h_rl : rl ≤ 8) : Ct l E yX0_open cX0_open 5 (Option.none : Option Jvm.ClassFile.FieldType) 2 45 0 0 [.ref l0, .ref a0, .int (ah)] [(l0, .inr (0, [.ref lh, .ref lb])), (lh, .inl (E.2.1 2, 8, .inr (.inl (hf)))), (a0, .inr (2, [.int (nI nt), .int (nI pp), .int (nI rl), .int (hm), .int (sp), .int (td), .int (dt), .ref ao, .ref aw, .ref an, .ref ab, .ref av])), (ao, .inl (E.2.1 1, 8, .inl (on))), (an, .inl (E.2.1 1, 8, .inl (nd))), (ab, .inl (E.2.1 1, 8, .inl (br)))] (Rt none [(l0, .inr (0, [.ref lh, .ref lb])), (lh, .inl (E.2.1 2, 8, .inr (.inl (openF ah on nd br hf rl)))), (a0, .inr (2, [.int (nI nt), .int (nI pp), .int (nI rl), .int (hm), .int (sp), .int (td), .int (dt), .ref ao, .ref aw, .ref an, .ref ab, .ref av])), (ao, .inl (E.2.1 1, 8, .inl (on))), (an, .inl (E.2.1 1, 8, .inl (nd))), (ab, .inl (E.2.1 1, 8, .inl (br)))]) := by
  refine Ct.of (own := RX0) (nm := "open") (lv := [(0, .ref l0), (1, .ref a0), (2, .int (ah))]) (by decide) rfl rfl (Nat.le_of_ble_eq_true rfl) rfl ?_
  refine v_iconst (pc := 0) (v := 0) dX0_open_0 (by decide) ?_
  refine v_istore_n (pc := 1) (lv' := [(3, .int (0)), (0, .ref l0), (1, .ref a0), (2, .int (ah))]) dX0_open_1 rfl (by decide) rfl ?_
  have loop_2 : ∀ (D_2 : Nat) (i : Nat) (g : Nat → Int64), rl - i < D_2 → (i ≤ rl) → (g = openF ah on nd br hf i) → V l E RX0 cX0_open 5 (Option.none : Option Jvm.ClassFile.FieldType) "open" ({ frames := 2, cells := 0, slots := 0, locals := 45 }) [(l0, .inr (0, [.ref lh, .ref lb])), (lh, .inl (E.2.1 2, 8, .inr (.inl (hf)))), (a0, .inr (2, [.int (nI nt), .int (nI pp), .int (nI rl), .int (hm), .int (sp), .int (td), .int (dt), .ref ao, .ref aw, .ref an, .ref ab, .ref av])), (ao, .inl (E.2.1 1, 8, .inl (on))), (an, .inl (E.2.1 1, 8, .inl (nd))), (ab, .inl (E.2.1 1, 8, .inl (br)))] 0 0 (Rt none [(l0, .inr (0, [.ref lh, .ref lb])), (lh, .inl (E.2.1 2, 8, .inr (.inl (openF ah on nd br hf rl)))), (a0, .inr (2, [.int (nI nt), .int (nI pp), .int (nI rl), .int (hm), .int (sp), .int (td), .int (dt), .ref ao, .ref aw, .ref an, .ref ab, .ref av])), (ao, .inl (E.2.1 1, 8, .inl (on))), (an, .inl (E.2.1 1, 8, .inl (nd))), (ab, .inl (E.2.1 1, 8, .inl (br)))]) 0 0 2 [(3, .int (nI i)), (0, .ref l0), (1, .ref a0), (2, .int (ah))] [] [(l0, .inr (0, [.ref lh, .ref lb])), (lh, .inl (E.2.1 2, 8, .inr (.inl (g)))), (a0, .inr (2, [.int (nI nt), .int (nI pp), .int (nI rl), .int (hm), .int (sp), .int (td), .int (dt), .ref ao, .ref aw, .ref an, .ref ab, .ref av])), (ao, .inl (E.2.1 1, 8, .inl (on))), (an, .inl (E.2.1 1, 8, .inl (nd))), (ab, .inl (E.2.1 1, 8, .inl (br)))] := by
    intro D_2
    induction D_2 with
    | zero => intro i g h; exact absurd h (Nat.not_lt_zero _)
    | succ D_2 ih_2 =>
      intro i g hmu_2 h_2_0 h_2_1
      refine v_iload_n (pc := 2) 0 dX0_open_2 rfl rfl ?_
      refine v_aload_n (pc := 3) 2 dX0_open_3 rfl rfl ?_
      refine gf_95 (pc := 4) 2 dX0_open_4 rfl rfl ?_
      refine v_cmpN_ge (pc := 7) (a := i) (b := rl) 67 dX0_open_7 (by decide) (by omega) (by omega) (fun c_7 => ?_) (fun c_7 => ?_)
      · skip
        refine v_vret (pc := 67) dX0_open_67 rfl ⟨rfl, rfl⟩ (Rt.w ?_)
        obtain rfl : i = rl := by omega
        rw [h_2_1]
      · skip
        refine v_iload_n (pc := 10) 3 dX0_open_10 rfl rfl ?_
        refine v_aload_n (pc := 11) 2 dX0_open_11 rfl rfl ?_
        refine gf_112 (pc := 12) 2 dX0_open_12 rfl rfl ?_
        refine v_iload_n (pc := 15) 0 dX0_open_15 rfl rfl ?_
        refine v_ialdN (pc := 16) 3 1 (i) dX0_open_16 rfl rfl rfl (by omega) (by decide) ?_
        refine v_callBit (pc := 17) (rest := []) [] (by decide) tb_399 tb_58 tb_398 (c_X4_bitOf l E ah (on i)) dX0_open_17 rfl rfl (Nat.le_of_ble_eq_true rfl) (by decide) (by decide) rfl (Rt.len rfl) (Rt.go ?_)
        refine v_w (ws' := [(l0, .inr (0, [.ref lh, .ref lb])), (lh, .inl (E.2.1 2, 8, .inr (.inl (g)))), (a0, .inr (2, [.int (nI nt), .int (nI pp), .int (nI rl), .int (hm), .int (sp), .int (td), .int (dt), .ref ao, .ref aw, .ref an, .ref ab, .ref av])), (ao, .inl (E.2.1 1, 8, .inl (on))), (an, .inl (E.2.1 1, 8, .inl (nd))), (ab, .inl (E.2.1 1, 8, .inl (br)))]) rfl ?_
        refine v_st (st' := [.int (bt1 ah (on i))]) rfl ?_
        refine v_iconst (pc := 20) (v := 1) dX0_open_20 (by decide) ?_
        refine v_icmp_ne (pc := 21) 28 dX0_open_21 (by decide) (fun c_21 => ?_) (fun c_21 => ?_)
        · skip
          refine v_iconst (pc := 28) (v := 0) dX0_open_28 (by decide) ?_
          refine v_istore (pc := 29) (lv' := [(4, .int (0)), (3, .int (nI i)), (0, .ref l0), (1, .ref a0), (2, .int (ah))]) dX0_open_29 (by decide) rfl ?_
          refine v_aload_n (pc := 31) 2 dX0_open_31 rfl rfl ?_
          refine gf_159 (pc := 32) 0 dX0_open_32 rfl rfl ?_
          refine v_iload_n (pc := 35) 1 dX0_open_35 rfl rfl ?_
          refine v_iload (pc := 36) 0 dX0_open_36 rfl ?_
          refine v_if_eq (pc := 38) 45 dX0_open_38 (by decide) (fun _ => ?_) (fun c => absurd c (by decide))
          refine v_aload_n (pc := 45) 3 dX0_open_45 rfl rfl ?_
          refine gf_118 (pc := 46) 2 dX0_open_46 rfl rfl ?_
          refine v_iload_n (pc := 49) 1 dX0_open_49 rfl rfl ?_
          refine v_ialdN (pc := 50) 4 1 (i) dX0_open_50 rfl rfl rfl (by omega) (by decide) ?_
          refine v_aload_n (pc := 51) 3 dX0_open_51 rfl rfl ?_
          refine gf_121 (pc := 52) 2 dX0_open_52 rfl rfl ?_
          refine v_iload_n (pc := 55) 1 dX0_open_55 rfl rfl ?_
          refine v_ialdN (pc := 56) 5 1 (i) dX0_open_56 rfl rfl rfl (by omega) (by decide) ?_
          refine v_callS (pc := 57) (rest := [.int (nI i), .ref lh]) [] lk_548 (c_X0_setsOf l E (nd i) (br i)) dX0_open_57 rfl rfl (Nat.le_of_ble_eq_true rfl) (by decide) (by decide) rfl (Rt.len rfl) (Rt.go ?_)
          refine v_w (ws' := [(l0, .inr (0, [.ref lh, .ref lb])), (lh, .inl (E.2.1 2, 8, .inr (.inl (g)))), (a0, .inr (2, [.int (nI nt), .int (nI pp), .int (nI rl), .int (hm), .int (sp), .int (td), .int (dt), .ref ao, .ref aw, .ref an, .ref ab, .ref av])), (ao, .inl (E.2.1 1, 8, .inl (on))), (an, .inl (E.2.1 1, 8, .inl (nd))), (ab, .inl (E.2.1 1, 8, .inl (br)))]) rfl ?_
          refine v_st (st' := [.long (setsK (nd i) (br i) 6), .int (nI i), .ref lh]) rfl ?_
          refine v_lastN (pc := 60) (ws' := [(l0, .inr (0, [.ref lh, .ref lb])), (lh, .inl (E.2.1 2, 8, .inr (.inl (vp_updL (g) (i) (setsK (nd i) (br i) 6))))), (a0, .inr (2, [.int (nI nt), .int (nI pp), .int (nI rl), .int (hm), .int (sp), .int (td), .int (dt), .ref ao, .ref aw, .ref an, .ref ab, .ref av])), (ao, .inl (E.2.1 1, 8, .inl (on))), (an, .inl (E.2.1 1, 8, .inl (nd))), (ab, .inl (E.2.1 1, 8, .inl (br)))]) 1 2 (i) dX0_open_60 rfl rfl rfl (by omega) (by decide) rfl ?_
          refine v_iinc (pc := 61) (v := nI (i + 1)) (lv' := [(3, .int (nI (i + 1))), (4, .int (0)), (0, .ref l0), (1, .ref a0), (2, .int (ah))]) 1 dX0_open_61 rfl (nI_inc (i) 1) (by decide) rfl ?_
          refine v_goto (pc := 64) 2 dX0_open_64 (by decide) ?_
          refine v_lv (lv' := [(3, .int (nI (i + 1))), (0, .ref l0), (1, .ref a0), (2, .int (ah))]) [0, 2, 3, 4] rfl ?_
          refine ih_2 (i + 1) (vp_updL (g) (i) (setsK (nd i) (br i) 6)) (by omega) ?_ ?_
          · omega
          · rw [h_2_1]; exact openF_s ah on nd br hf i _ (by rw [if_neg c_21])
        · skip
          refine v_iconst (pc := 24) (v := 1) dX0_open_24 (by decide) ?_
          refine v_goto (pc := 25) 29 dX0_open_25 (by decide) ?_
          refine v_istore (pc := 29) (lv' := [(4, .int (1)), (3, .int (nI i)), (0, .ref l0), (1, .ref a0), (2, .int (ah))]) dX0_open_29 (by decide) rfl ?_
          refine v_aload_n (pc := 31) 2 dX0_open_31 rfl rfl ?_
          refine gf_159 (pc := 32) 0 dX0_open_32 rfl rfl ?_
          refine v_iload_n (pc := 35) 1 dX0_open_35 rfl rfl ?_
          refine v_iload (pc := 36) 0 dX0_open_36 rfl ?_
          refine v_if_eq (pc := 38) 45 dX0_open_38 (by decide) (fun c => absurd c (by decide)) (fun _ => ?_)
          refine v_lconst (pc := 41) (v := 0) dX0_open_41 (by decide) ?_
          refine v_goto (pc := 42) 60 dX0_open_42 (by decide) ?_
          refine v_lastN (pc := 60) (ws' := [(l0, .inr (0, [.ref lh, .ref lb])), (lh, .inl (E.2.1 2, 8, .inr (.inl (vp_updL (g) (i) (0))))), (a0, .inr (2, [.int (nI nt), .int (nI pp), .int (nI rl), .int (hm), .int (sp), .int (td), .int (dt), .ref ao, .ref aw, .ref an, .ref ab, .ref av])), (ao, .inl (E.2.1 1, 8, .inl (on))), (an, .inl (E.2.1 1, 8, .inl (nd))), (ab, .inl (E.2.1 1, 8, .inl (br)))]) 1 2 (i) dX0_open_60 rfl rfl rfl (by omega) (by decide) rfl ?_
          refine v_iinc (pc := 61) (v := nI (i + 1)) (lv' := [(3, .int (nI (i + 1))), (4, .int (1)), (0, .ref l0), (1, .ref a0), (2, .int (ah))]) 1 dX0_open_61 rfl (nI_inc (i) 1) (by decide) rfl ?_
          refine v_goto (pc := 64) 2 dX0_open_64 (by decide) ?_
          refine v_lv (lv' := [(3, .int (nI (i + 1))), (0, .ref l0), (1, .ref a0), (2, .int (ah))]) [0, 2, 3, 4] rfl ?_
          refine ih_2 (i + 1) (vp_updL (g) (i) (0)) (by omega) ?_ ?_
          · omega
          · rw [h_2_1]; exact openF_s ah on nd br hf i _ (by rw [if_pos c_21])
  refine v_lv (lv' := [(3, .int (nI 0)), (0, .ref l0), (1, .ref a0), (2, .int (ah))]) [0, 1, 2, 3] rfl ?_
  refine loop_2 ((rl - 0) + 1) 0 hf (Nat.lt_succ_self _) ?_ ?_
  · omega
  · exact (openF_0 ah on nd br hf).symm
def hoF (hm : Int32) (on nd br : Nat → Int32) : Nat → Int64 := fun j => if bt1 hm (on j) = 1 then 0 else setsK (nd j) (br j) 6
theorem open_ho {ah : Int32} {on nd br : Nat → Int32} {f : Nat → Int64} {n : Nat} : ∀ k, k < n → openF ah on nd br f n k = hoF ah on nd br k := fun k hk => by simp [openF, hoF, hk]
theorem brgK_c {ch : Int32} {w : Nat → Nat} {hf hg bg bh : Nat → Int64} {rl : Nat} (hw : ∀ k, k < rl → w k < 6) (hh : ∀ k, k < rl → hf k = hg k) : ∀ n, n ≤ rl → ∀ j, j < 6 → brgK ch w hf (fillI bg 0 6) n j = brgK ch w hg (fillI bh 0 6) n j := by
  intro n
  induction n with
  | zero => intro _ j hj; simp [brgK, fillI, hj]
  | succ n ih =>
    intro hn j hj
    simp only [brgK]
    split
    · unfold vp_updL
      rw [hh n (by omega), ih (by omega) _ (hw n (by omega)), ih (by omega) j hj]
    · exact ih (by omega) j hj
theorem agrK_c {sp : Int32} {bg bh : Nat → Int64} {s0 : Int64} : ∀ n, (∀ j, j < n → bg j = bh j) → agrK sp bg s0 n = agrK sp bh s0 n := by
  intro n
  induction n with
  | zero => intro _; rfl
  | succ n ih => intro h; simp only [agrK]; rw [ih (fun j hj => h j (by omega)), h n (by omega)]
/-- the sets that AGREE, by a choice of RULES, those at HOME, what is STOPPED -/
def ag (nt rl : Nat) (w : Nat → Nat) (ch sp ah : Int32) (on nd br : Nat → Int32) : Int64 := agr nt rl w ch sp (hoF ah on nd br) (fun _ => 0)
theorem agr_ag {nt rl : Nat} {w : Nat → Nat} {ch sp ah : Int32} {on nd br : Nat → Int32} {hf bg : Nat → Int64} (hnt : nt ≤ 6) (hw : ∀ k, k < rl → w k < 6) (hh : ∀ k, k < rl → hf k = hoF ah on nd br k) : agr nt rl w ch sp hf bg = ag nt rl w ch sp ah on nd br := by
  unfold ag agr
  exact agrK_c nt (fun j hj => brgK_c hw hh rl (Nat.le_refl _) j (by omega))
theorem c_X0_agreeing (l : Launch) (E : VE) (l0 : Nat) (lh : Nat) (lb : Nat) (a0 : Nat) (ao : Nat) (aw : Nat) (an : Nat) (ab : Nat) (av : Nat) (nt : Nat) (pp : Nat) (rl : Nat) (hm : Int32) (sp : Int32) (td : Int32) (dt : Int32) (on : Nat → Int32) (wr : Nat → Int32) (nd : Nat → Int32) (br : Nat → Int32) (ch : Int32) (sx : Int32) (ah : Int32) (hf : Nat → Int64) (bg : Nat → Int64) (w : Nat → Nat) (h_rl : rl ≤ 8) (h_nt : nt ≤ 6) (h_wr : ∀ k, k < rl → wr k = nI (w k) ∧ w k < 6) (h_hf : ∀ k, k < rl → hf k = hoF ah on nd br k) : Ct l E yX0_agreeing cX0_agreeing 9 (Option.some FieldType.long) 1 24 0 0 [.ref l0, .ref a0, .int (ch), .int (sx)] [(l0, .inr (0, [.ref lh, .ref lb])), (lh, .inl (E.2.1 2, 8, .inr (.inl (hf)))), (lb, .inl (E.2.1 2, 6, .inr (.inl (bg)))), (a0, .inr (2, [.int (nI nt), .int (nI pp), .int (nI rl), .int (hm), .int (sp), .int (td), .int (dt), .ref ao, .ref aw, .ref an, .ref ab, .ref av])), (aw, .inl (E.2.1 1, 8, .inl (wr)))] (RtE1 (some (.long (ag nt rl w ch sx ah on nd br))) (fun (bg_ : Nat → Int64) => [(l0, .inr (0, [.ref lh, .ref lb])), (lh, .inl (E.2.1 2, 8, .inr (.inl (hf)))), (lb, .inl (E.2.1 2, 6, .inr (.inl (bg_)))), (a0, .inr (2, [.int (nI nt), .int (nI pp), .int (nI rl), .int (hm), .int (sp), .int (td), .int (dt), .ref ao, .ref aw, .ref an, .ref ab, .ref av])), (aw, .inl (E.2.1 1, 8, .inl (wr)))])) := by
  refine Ct.of (own := RX0) (nm := "agreeing") (lv := [(0, .ref l0), (1, .ref a0), (2, .int (ch)), (3, .int (sx))]) (by decide) rfl rfl (Nat.le_of_ble_eq_true rfl) rfl ?_
  refine v_aload_n (pc := 0) 0 dX0_agreeing_0 rfl rfl ?_
  refine gf_160 (pc := 1) 0 dX0_agreeing_1 rfl rfl ?_
  refine v_lconst (pc := 4) (v := 0) dX0_agreeing_4 (by decide) ?_
  refine v_callS (pc := 5) (rest := []) [2] lk_562 (c_J7_fill_d0a16 l E lb 6 bg 0 (by decide)) dX0_agreeing_5 rfl rfl (Nat.le_of_ble_eq_true rfl) (by decide) (by decide) rfl (Rt.len rfl) (Rt.go ?_)
  refine v_w (ws' := [(l0, .inr (0, [.ref lh, .ref lb])), (lh, .inl (E.2.1 2, 8, .inr (.inl (hf)))), (lb, .inl (E.2.1 2, 6, .inr (.inl (fillI bg 0 6)))), (a0, .inr (2, [.int (nI nt), .int (nI pp), .int (nI rl), .int (hm), .int (sp), .int (td), .int (dt), .ref ao, .ref aw, .ref an, .ref ab, .ref av])), (aw, .inl (E.2.1 1, 8, .inl (wr)))]) rfl ?_
  refine v_st (st' := []) rfl ?_
  refine v_iconst (pc := 8) (v := 0) dX0_agreeing_8 (by decide) ?_
  refine v_istore (pc := 9) (lv' := [(4, .int (0)), (0, .ref l0), (1, .ref a0), (2, .int (ch)), (3, .int (sx))]) dX0_agreeing_9 (by decide) rfl ?_
  have loop_11 : ∀ (D_11 : Nat) (i : Nat) (g : Nat → Int64), rl - i < D_11 → (i ≤ rl) → (g = brgK ch w hf (fillI bg 0 6) i) → V l E RX0 cX0_agreeing 9 (Option.some FieldType.long) "agreeing" ({ frames := 1, cells := 0, slots := 0, locals := 24 }) [(l0, .inr (0, [.ref lh, .ref lb])), (lh, .inl (E.2.1 2, 8, .inr (.inl (hf)))), (lb, .inl (E.2.1 2, 6, .inr (.inl (bg)))), (a0, .inr (2, [.int (nI nt), .int (nI pp), .int (nI rl), .int (hm), .int (sp), .int (td), .int (dt), .ref ao, .ref aw, .ref an, .ref ab, .ref av])), (aw, .inl (E.2.1 1, 8, .inl (wr)))] 0 0 (RtE1 (some (.long (ag nt rl w ch sx ah on nd br))) (fun (bg_ : Nat → Int64) => [(l0, .inr (0, [.ref lh, .ref lb])), (lh, .inl (E.2.1 2, 8, .inr (.inl (hf)))), (lb, .inl (E.2.1 2, 6, .inr (.inl (bg_)))), (a0, .inr (2, [.int (nI nt), .int (nI pp), .int (nI rl), .int (hm), .int (sp), .int (td), .int (dt), .ref ao, .ref aw, .ref an, .ref ab, .ref av])), (aw, .inl (E.2.1 1, 8, .inl (wr)))])) 0 0 11 [(4, .int (nI i)), (0, .ref l0), (1, .ref a0), (2, .int (ch)), (3, .int (sx))] [] [(l0, .inr (0, [.ref lh, .ref lb])), (lh, .inl (E.2.1 2, 8, .inr (.inl (hf)))), (lb, .inl (E.2.1 2, 6, .inr (.inl (g)))), (a0, .inr (2, [.int (nI nt), .int (nI pp), .int (nI rl), .int (hm), .int (sp), .int (td), .int (dt), .ref ao, .ref aw, .ref an, .ref ab, .ref av])), (aw, .inl (E.2.1 1, 8, .inl (wr)))] := by
    intro D_11
    induction D_11 with
    | zero => intro i g h; exact absurd h (Nat.not_lt_zero _)
    | succ D_11 ih_11 =>
      intro i g hmu_11 h_11_0 h_11_1
      refine v_iload (pc := 11) 0 dX0_agreeing_11 rfl ?_
      refine v_aload_n (pc := 13) 2 dX0_agreeing_13 rfl rfl ?_
      refine gf_95 (pc := 14) 3 dX0_agreeing_14 rfl rfl ?_
      refine v_cmpN_ge (pc := 17) (a := i) (b := rl) 58 dX0_agreeing_17 (by decide) (by omega) (by omega) (fun c_17 => ?_) (fun c_17 => ?_)
      · skip
        refine v_aload_n (pc := 58) 2 dX0_agreeing_58 rfl rfl ?_
        refine gf_88 (pc := 59) 3 dX0_agreeing_59 rfl rfl ?_
        refine v_bipush (pc := 62) (v := 6) dX0_agreeing_62 (by decide) ?_
        suffices J_64 : V l E RX0 cX0_agreeing 9 (Option.some FieldType.long) "agreeing" ({ frames := 1, cells := 0, slots := 0, locals := 24 }) [(l0, .inr (0, [.ref lh, .ref lb])), (lh, .inl (E.2.1 2, 8, .inr (.inl (hf)))), (lb, .inl (E.2.1 2, 6, .inr (.inl (bg)))), (a0, .inr (2, [.int (nI nt), .int (nI pp), .int (nI rl), .int (hm), .int (sp), .int (td), .int (dt), .ref ao, .ref aw, .ref an, .ref ab, .ref av])), (aw, .inl (E.2.1 1, 8, .inl (wr)))] 0 0 (RtE1 (some (.long (ag nt rl w ch sx ah on nd br))) (fun (bg_ : Nat → Int64) => [(l0, .inr (0, [.ref lh, .ref lb])), (lh, .inl (E.2.1 2, 8, .inr (.inl (hf)))), (lb, .inl (E.2.1 2, 6, .inr (.inl (bg_)))), (a0, .inr (2, [.int (nI nt), .int (nI pp), .int (nI rl), .int (hm), .int (sp), .int (td), .int (dt), .ref ao, .ref aw, .ref an, .ref ab, .ref av])), (aw, .inl (E.2.1 1, 8, .inl (wr)))])) 0 0 83 [(4, .int (nI i)), (0, .ref l0), (1, .ref a0), (2, .int (ch)), (3, .int (sx))] [.long (if nt < 6 then ((1 : Int64) <<< (Int32.toInt64 ((1 : Int32) <<< ((nI nt) &&& 31)) &&& 63)) - (1) else (-1))] [(l0, .inr (0, [.ref lh, .ref lb])), (lh, .inl (E.2.1 2, 8, .inr (.inl (hf)))), (lb, .inl (E.2.1 2, 6, .inr (.inl (g)))), (a0, .inr (2, [.int (nI nt), .int (nI pp), .int (nI rl), .int (hm), .int (sp), .int (td), .int (dt), .ref ao, .ref aw, .ref an, .ref ab, .ref av])), (aw, .inl (E.2.1 1, 8, .inl (wr)))] by
          refine v_cmpN_lt (pc := 64) (a := nt) (b := 6) 73 dX0_agreeing_64 (by decide) (by omega) (by omega) (fun c_64 => ?_) (fun c_64 => ?_)
          · skip
            refine v_lconst (pc := 73) (v := 1) dX0_agreeing_73 (by decide) ?_
            refine v_iconst (pc := 74) (v := 1) dX0_agreeing_74 (by decide) ?_
            refine v_aload_n (pc := 75) 2 dX0_agreeing_75 rfl rfl ?_
            refine gf_88 (pc := 76) 3 dX0_agreeing_76 rfl rfl ?_
            refine v_ishl (pc := 79) dX0_agreeing_79 ?_
            refine v_lshl (pc := 80) dX0_agreeing_80 ?_
            refine v_lconst (pc := 81) (v := 1) dX0_agreeing_81 (by decide) ?_
            refine v_lsub (pc := 82) dX0_agreeing_82 ?_
            refine v_st ?_ J_64
            rw [if_pos (show nt < 6 from c_64)]
          · skip
            refine v_ldc2 (pc := 67) dX0_agreeing_67 tb_551 ?_
            refine v_goto (pc := 70) 83 dX0_agreeing_70 (by decide) ?_
            refine v_st ?_ J_64
            rw [if_neg (show ¬ (nt < 6) from (by first | exact c_64 | omega | exact fun q => q c_64))]
        refine v_lstore (pc := 83) (lv' := [(4, .long (if nt < 6 then ((1 : Int64) <<< (Int32.toInt64 ((1 : Int32) <<< ((nI nt) &&& 31)) &&& 63)) - (1) else (-1))), (0, .ref l0), (1, .ref a0), (2, .int (ch)), (3, .int (sx))]) dX0_agreeing_83 (by decide) rfl ?_
        refine v_iconst (pc := 85) (v := 0) dX0_agreeing_85 (by decide) ?_
        refine v_istore (pc := 86) (lv' := [(6, .int (0)), (4, .long (if nt < 6 then ((1 : Int64) <<< (Int32.toInt64 ((1 : Int32) <<< ((nI nt) &&& 31)) &&& 63)) - (1) else (-1))), (0, .ref l0), (1, .ref a0), (2, .int (ch)), (3, .int (sx))]) dX0_agreeing_86 (by decide) rfl ?_
        have loop_88 : ∀ (D_88 : Nat) (j : Nat) (acc : Int64), nt - j < D_88 → (j ≤ nt) → (acc = agrK sx g (allS nt) j) → V l E RX0 cX0_agreeing 9 (Option.some FieldType.long) "agreeing" ({ frames := 1, cells := 0, slots := 0, locals := 24 }) [(l0, .inr (0, [.ref lh, .ref lb])), (lh, .inl (E.2.1 2, 8, .inr (.inl (hf)))), (lb, .inl (E.2.1 2, 6, .inr (.inl (bg)))), (a0, .inr (2, [.int (nI nt), .int (nI pp), .int (nI rl), .int (hm), .int (sp), .int (td), .int (dt), .ref ao, .ref aw, .ref an, .ref ab, .ref av])), (aw, .inl (E.2.1 1, 8, .inl (wr)))] 0 0 (RtE1 (some (.long (ag nt rl w ch sx ah on nd br))) (fun (bg_ : Nat → Int64) => [(l0, .inr (0, [.ref lh, .ref lb])), (lh, .inl (E.2.1 2, 8, .inr (.inl (hf)))), (lb, .inl (E.2.1 2, 6, .inr (.inl (bg_)))), (a0, .inr (2, [.int (nI nt), .int (nI pp), .int (nI rl), .int (hm), .int (sp), .int (td), .int (dt), .ref ao, .ref aw, .ref an, .ref ab, .ref av])), (aw, .inl (E.2.1 1, 8, .inl (wr)))])) 0 0 88 [(6, .int (nI j)), (4, .long (acc)), (0, .ref l0), (1, .ref a0), (2, .int (ch)), (3, .int (sx))] [] [(l0, .inr (0, [.ref lh, .ref lb])), (lh, .inl (E.2.1 2, 8, .inr (.inl (hf)))), (lb, .inl (E.2.1 2, 6, .inr (.inl (g)))), (a0, .inr (2, [.int (nI nt), .int (nI pp), .int (nI rl), .int (hm), .int (sp), .int (td), .int (dt), .ref ao, .ref aw, .ref an, .ref ab, .ref av])), (aw, .inl (E.2.1 1, 8, .inl (wr)))] := by
          intro D_88
          induction D_88 with
          | zero => intro j acc h; exact absurd h (Nat.not_lt_zero _)
          | succ D_88 ih_88 =>
            intro j acc hmu_88 h_88_0 h_88_1
            refine v_iload (pc := 88) 0 dX0_agreeing_88 rfl ?_
            refine v_aload_n (pc := 90) 3 dX0_agreeing_90 rfl rfl ?_
            refine gf_88 (pc := 91) 3 dX0_agreeing_91 rfl rfl ?_
            refine v_cmpN_ge (pc := 94) (a := j) (b := nt) 144 dX0_agreeing_94 (by decide) (by omega) (by omega) (fun c_94 => ?_) (fun c_94 => ?_)
            · skip
              refine v_lload (pc := 144) 1 dX0_agreeing_144 rfl ?_
              refine v_lret (pc := 146) dX0_agreeing_146 rfl ⟨rfl, rfl⟩ (RtE1.l (g) ?_ ?_)
              · skip
                obtain rfl : j = nt := by omega
                obtain rfl : i = rl := by omega
                rw [h_88_1, h_11_1]; exact agr_ag h_nt (fun k hk => (h_wr k hk).2) h_hf
              · skip
                rfl
            · skip
              refine v_iload_n (pc := 97) 5 dX0_agreeing_97 rfl rfl ?_
              refine v_iload (pc := 98) 0 dX0_agreeing_98 rfl ?_
              refine v_callBit (pc := 100) (rest := []) [] (by decide) tb_399 tb_58 tb_398 (c_X4_bitOf l E sx (nI j)) dX0_agreeing_100 rfl rfl (Nat.le_of_ble_eq_true rfl) (by decide) (by decide) rfl (Rt.len rfl) (Rt.go ?_)
              refine v_w (ws' := [(l0, .inr (0, [.ref lh, .ref lb])), (lh, .inl (E.2.1 2, 8, .inr (.inl (hf)))), (lb, .inl (E.2.1 2, 6, .inr (.inl (g)))), (a0, .inr (2, [.int (nI nt), .int (nI pp), .int (nI rl), .int (hm), .int (sp), .int (td), .int (dt), .ref ao, .ref aw, .ref an, .ref ab, .ref av])), (aw, .inl (E.2.1 1, 8, .inl (wr)))]) rfl ?_
              refine v_st (st' := [.int (bt1 sx (nI j))]) rfl ?_
              refine v_iconst (pc := 103) (v := 1) dX0_agreeing_103 (by decide) ?_
              suffices J_104 : V l E RX0 cX0_agreeing 9 (Option.some FieldType.long) "agreeing" ({ frames := 1, cells := 0, slots := 0, locals := 24 }) [(l0, .inr (0, [.ref lh, .ref lb])), (lh, .inl (E.2.1 2, 8, .inr (.inl (hf)))), (lb, .inl (E.2.1 2, 6, .inr (.inl (bg)))), (a0, .inr (2, [.int (nI nt), .int (nI pp), .int (nI rl), .int (hm), .int (sp), .int (td), .int (dt), .ref ao, .ref aw, .ref an, .ref ab, .ref av])), (aw, .inl (E.2.1 1, 8, .inl (wr)))] 0 0 (RtE1 (some (.long (ag nt rl w ch sx ah on nd br))) (fun (bg_ : Nat → Int64) => [(l0, .inr (0, [.ref lh, .ref lb])), (lh, .inl (E.2.1 2, 8, .inr (.inl (hf)))), (lb, .inl (E.2.1 2, 6, .inr (.inl (bg_)))), (a0, .inr (2, [.int (nI nt), .int (nI pp), .int (nI rl), .int (hm), .int (sp), .int (td), .int (dt), .ref ao, .ref aw, .ref an, .ref ab, .ref av])), (aw, .inl (E.2.1 1, 8, .inl (wr)))])) 0 0 118 [(6, .int (nI j)), (4, .long (acc)), (0, .ref l0), (1, .ref a0), (2, .int (ch)), (3, .int (sx))] [.long (if ¬ (bt1 sx (nI j)) = (1) then g j else 0)] [(l0, .inr (0, [.ref lh, .ref lb])), (lh, .inl (E.2.1 2, 8, .inr (.inl (hf)))), (lb, .inl (E.2.1 2, 6, .inr (.inl (g)))), (a0, .inr (2, [.int (nI nt), .int (nI pp), .int (nI rl), .int (hm), .int (sp), .int (td), .int (dt), .ref ao, .ref aw, .ref an, .ref ab, .ref av])), (aw, .inl (E.2.1 1, 8, .inl (wr)))] by
                refine v_icmp_ne (pc := 104) 111 dX0_agreeing_104 (by decide) (fun c_104 => ?_) (fun c_104 => ?_)
                · skip
                  refine v_aload_n (pc := 111) 2 dX0_agreeing_111 rfl rfl ?_
                  refine gf_160 (pc := 112) 0 dX0_agreeing_112 rfl rfl ?_
                  refine v_iload (pc := 115) 0 dX0_agreeing_115 rfl ?_
                  refine v_laldN (pc := 117) 2 2 (j) dX0_agreeing_117 rfl rfl rfl (by omega) (by decide) ?_
                  refine v_st ?_ J_104
                  rw [if_pos (show ¬ (bt1 sx (nI j)) = (1) from c_104)]
                · skip
                  refine v_lconst (pc := 107) (v := 0) dX0_agreeing_107 (by decide) ?_
                  refine v_goto (pc := 108) 118 dX0_agreeing_108 (by decide) ?_
                  refine v_st ?_ J_104
                  rw [if_neg (show ¬ (¬ (bt1 sx (nI j)) = (1)) from (by first | exact c_104 | omega | exact fun q => q c_104))]
              refine v_lstore (pc := 118) (lv' := [(7, .long (if ¬ (bt1 sx (nI j)) = (1) then g j else 0)), (6, .int (nI j)), (4, .long (acc)), (0, .ref l0), (1, .ref a0), (2, .int (ch)), (3, .int (sx))]) dX0_agreeing_118 (by decide) rfl ?_
              refine v_lload (pc := 120) 2 dX0_agreeing_120 rfl ?_
              refine v_lload (pc := 122) 0 dX0_agreeing_122 rfl ?_
              refine v_gsHVn (pc := 124) rfl dX0_agreeing_124 ?_
              refine v_iload (pc := 127) 1 dX0_agreeing_127 rfl ?_
              refine v_tlHVN (pc := 129) (j) dX0_agreeing_129 rfl (by omega) ?_
              refine v_lxor (pc := 130) dX0_agreeing_130 ?_
              refine v_ldc2 (pc := 131) dX0_agreeing_131 tb_551 ?_
              refine v_lxor (pc := 134) dX0_agreeing_134 ?_
              refine v_land (pc := 135) dX0_agreeing_135 ?_
              refine v_lstore (pc := 136) (lv' := [(4, .long ((acc) &&& (((if ¬ (bt1 sx (nI j)) = (1) then g j else 0) ^^^ (HVj (j))) ^^^ ((-1))))), (7, .long (if ¬ (bt1 sx (nI j)) = (1) then g j else 0)), (6, .int (nI j)), (0, .ref l0), (1, .ref a0), (2, .int (ch)), (3, .int (sx))]) dX0_agreeing_136 (by decide) rfl ?_
              refine v_iinc (pc := 138) (v := nI (j + 1)) (lv' := [(6, .int (nI (j + 1))), (4, .long ((acc) &&& (((if ¬ (bt1 sx (nI j)) = (1) then g j else 0) ^^^ (HVj (j))) ^^^ ((-1))))), (7, .long (if ¬ (bt1 sx (nI j)) = (1) then g j else 0)), (0, .ref l0), (1, .ref a0), (2, .int (ch)), (3, .int (sx))]) 2 dX0_agreeing_138 rfl (nI_inc (j) 1) (by decide) rfl ?_
              refine v_goto (pc := 141) 88 dX0_agreeing_141 (by decide) ?_
              refine v_lv (lv' := [(6, .int (nI (j + 1))), (4, .long ((acc) &&& (((if ¬ (bt1 sx (nI j)) = (1) then g j else 0) ^^^ (HVj (j))) ^^^ ((-1))))), (0, .ref l0), (1, .ref a0), (2, .int (ch)), (3, .int (sx))]) [0, 1, 3, 4, 5, 6] rfl ?_
              refine ih_88 (j + 1) ((acc) &&& (((if ¬ (bt1 sx (nI j)) = (1) then g j else 0) ^^^ (HVj (j))) ^^^ ((-1)))) (by omega) ?_ ?_
              · omega
              · rw [h_88_1]; simp only [agrK]; by_cases q : bt1 sx (nI j) = 1 <;> simp [q]
        refine v_lv (lv' := [(6, .int (nI 0)), (4, .long (if nt < 6 then ((1 : Int64) <<< (Int32.toInt64 ((1 : Int32) <<< ((nI nt) &&& 31)) &&& 63)) - (1) else (-1))), (0, .ref l0), (1, .ref a0), (2, .int (ch)), (3, .int (sx))]) [0, 1, 2, 3, 4, 5] rfl ?_
        refine loop_88 ((nt - 0) + 1) 0 (if nt < 6 then ((1 : Int64) <<< (Int32.toInt64 ((1 : Int32) <<< ((nI nt) &&& 31)) &&& 63)) - (1) else (-1)) (Nat.lt_succ_self _) ?_ ?_
        · omega
        · rfl
      · skip
        refine v_iload_n (pc := 20) 3 dX0_agreeing_20 rfl rfl ?_
        refine v_iload (pc := 21) 0 dX0_agreeing_21 rfl ?_
        refine v_callBit (pc := 23) (rest := []) [] (by decide) tb_399 tb_58 tb_398 (c_X4_bitOf l E ch (nI i)) dX0_agreeing_23 rfl rfl (Nat.le_of_ble_eq_true rfl) (by decide) (by decide) rfl (Rt.len rfl) (Rt.go ?_)
        refine v_w (ws' := [(l0, .inr (0, [.ref lh, .ref lb])), (lh, .inl (E.2.1 2, 8, .inr (.inl (hf)))), (lb, .inl (E.2.1 2, 6, .inr (.inl (g)))), (a0, .inr (2, [.int (nI nt), .int (nI pp), .int (nI rl), .int (hm), .int (sp), .int (td), .int (dt), .ref ao, .ref aw, .ref an, .ref ab, .ref av])), (aw, .inl (E.2.1 1, 8, .inl (wr)))]) rfl ?_
        refine v_st (st' := [.int (bt1 ch (nI i))]) rfl ?_
        refine v_iconst (pc := 26) (v := 1) dX0_agreeing_26 (by decide) ?_
        refine v_icmp_ne (pc := 27) 52 dX0_agreeing_27 (by decide) (fun c_27 => ?_) (fun c_27 => ?_)
        · skip
          refine v_iinc (pc := 52) (v := nI (i + 1)) (lv' := [(4, .int (nI (i + 1))), (0, .ref l0), (1, .ref a0), (2, .int (ch)), (3, .int (sx))]) 0 dX0_agreeing_52 rfl (nI_inc (i) 1) (by decide) rfl ?_
          refine v_goto (pc := 55) 11 dX0_agreeing_55 (by decide) ?_
          refine v_lv (lv' := [(4, .int (nI (i + 1))), (0, .ref l0), (1, .ref a0), (2, .int (ch)), (3, .int (sx))]) [0, 1, 2, 3, 4] rfl ?_
          refine ih_11 (i + 1) g (by omega) ?_ ?_
          · omega
          · rw [h_11_1]; simp only [brgK]; rw [if_neg c_27]
        · skip
          refine v_aload_n (pc := 30) 1 dX0_agreeing_30 rfl rfl ?_
          refine gf_160 (pc := 31) 0 dX0_agreeing_31 rfl rfl ?_
          refine v_aload_n (pc := 34) 2 dX0_agreeing_34 rfl rfl ?_
          refine gf_115 (pc := 35) 3 dX0_agreeing_35 rfl rfl ?_
          refine v_iload (pc := 38) 0 dX0_agreeing_38 rfl ?_
          refine v_ialdN (pc := 40) 4 1 (i) dX0_agreeing_40 rfl rfl rfl (by omega) (by decide) ?_
          refine v_dup2 (pc := 41) dX0_agreeing_41 rfl rfl ?_
          refine v_laldN (pc := 42) 2 2 (w i) dX0_agreeing_42 rfl rfl (h_wr i (by omega)).1 (h_wr i (by omega)).2 (by decide) ?_
          refine v_aload_n (pc := 43) 1 dX0_agreeing_43 rfl rfl ?_
          refine gf_159 (pc := 44) 0 dX0_agreeing_44 rfl rfl ?_
          refine v_iload (pc := 47) 0 dX0_agreeing_47 rfl ?_
          refine v_laldN (pc := 49) 1 2 (i) dX0_agreeing_49 rfl rfl rfl (by omega) (by decide) ?_
          refine v_lor (pc := 50) dX0_agreeing_50 ?_
          refine v_lastN (pc := 51) (ws' := [(l0, .inr (0, [.ref lh, .ref lb])), (lh, .inl (E.2.1 2, 8, .inr (.inl (hf)))), (lb, .inl (E.2.1 2, 6, .inr (.inl (vp_updL (g) (w i) ((g (w i)) ||| (hf i)))))), (a0, .inr (2, [.int (nI nt), .int (nI pp), .int (nI rl), .int (hm), .int (sp), .int (td), .int (dt), .ref ao, .ref aw, .ref an, .ref ab, .ref av])), (aw, .inl (E.2.1 1, 8, .inl (wr)))]) 2 2 (w i) dX0_agreeing_51 rfl rfl (h_wr i (by omega)).1 (h_wr i (by omega)).2 (by decide) rfl ?_
          refine v_iinc (pc := 52) (v := nI (i + 1)) (lv' := [(4, .int (nI (i + 1))), (0, .ref l0), (1, .ref a0), (2, .int (ch)), (3, .int (sx))]) 0 dX0_agreeing_52 rfl (nI_inc (i) 1) (by decide) rfl ?_
          refine v_goto (pc := 55) 11 dX0_agreeing_55 (by decide) ?_
          refine v_lv (lv' := [(4, .int (nI (i + 1))), (0, .ref l0), (1, .ref a0), (2, .int (ch)), (3, .int (sx))]) [0, 1, 2, 3, 4] rfl ?_
          refine ih_11 (i + 1) (vp_updL (g) (w i) ((g (w i)) ||| (hf i))) (by omega) ?_ ?_
          · omega
          · rw [h_11_1]; simp only [brgK]; rw [if_pos c_27]
  refine v_lv (lv' := [(4, .int (nI 0)), (0, .ref l0), (1, .ref a0), (2, .int (ch)), (3, .int (sx))]) [0, 1, 2, 3, 4] rfl ?_
  refine loop_11 ((rl - 0) + 1) 0 (fillI bg 0 6) (Nat.lt_succ_self _) ?_ ?_
  · omega
  · rfl
theorem c_X0_agreeingNow (l : Launch) (E : VE) (l0 : Nat) (lh : Nat) (lb : Nat) (a0 : Nat) (ao : Nat) (aw : Nat) (an : Nat) (ab : Nat) (av : Nat) (nt : Nat) (pp : Nat) (rl : Nat) (hm : Int32) (sp : Int32) (td : Int32) (dt : Int32) (on : Nat → Int32) (wr : Nat → Int32) (nd : Nat → Int32) (br : Nat → Int32) (hf : Nat → Int64) (bg : Nat → Int64) (w : Nat → Nat) (h_rl : rl ≤ 8) (h_nt : nt ≤ 6) (h_wr : ∀ k, k < rl → wr k = nI (w k) ∧ w k < 6) : Ct l E yX0_agreeingNow cX0_agreeingNow 2 (Option.some FieldType.long) 3 69 0 0 [.ref l0, .ref a0] [(l0, .inr (0, [.ref lh, .ref lb])), (lh, .inl (E.2.1 2, 8, .inr (.inl (hf)))), (lb, .inl (E.2.1 2, 6, .inr (.inl (bg)))), (a0, .inr (2, [.int (nI nt), .int (nI pp), .int (nI rl), .int (hm), .int (sp), .int (td), .int (dt), .ref ao, .ref aw, .ref an, .ref ab, .ref av])), (ao, .inl (E.2.1 1, 8, .inl (on))), (aw, .inl (E.2.1 1, 8, .inl (wr))), (an, .inl (E.2.1 1, 8, .inl (nd))), (ab, .inl (E.2.1 1, 8, .inl (br)))] (RtE2 (some (.long (ag nt rl w (nI (2 ^ rl - 1)) sp hm on nd br))) (fun (hf_ : Nat → Int64) (bg_ : Nat → Int64) => [(l0, .inr (0, [.ref lh, .ref lb])), (lh, .inl (E.2.1 2, 8, .inr (.inl (hf_)))), (lb, .inl (E.2.1 2, 6, .inr (.inl (bg_)))), (a0, .inr (2, [.int (nI nt), .int (nI pp), .int (nI rl), .int (hm), .int (sp), .int (td), .int (dt), .ref ao, .ref aw, .ref an, .ref ab, .ref av])), (ao, .inl (E.2.1 1, 8, .inl (on))), (aw, .inl (E.2.1 1, 8, .inl (wr))), (an, .inl (E.2.1 1, 8, .inl (nd))), (ab, .inl (E.2.1 1, 8, .inl (br)))])) := by
  refine Ct.of (own := RX0) (nm := "agreeingNow") (lv := [(0, .ref l0), (1, .ref a0)]) (by decide) rfl rfl (Nat.le_of_ble_eq_true rfl) rfl ?_
  refine v_aload_n (pc := 0) 0 dX0_agreeingNow_0 rfl rfl ?_
  refine v_aload_n (pc := 1) 1 dX0_agreeingNow_1 rfl rfl ?_
  refine v_aload_n (pc := 2) 1 dX0_agreeingNow_2 rfl rfl ?_
  refine gf_98 (pc := 3) 3 dX0_agreeingNow_3 rfl rfl ?_
  refine v_callV (pc := 6) (rest := []) [0, 1, 3, 4, 6, 7] 0 lk_543 (c_X0_open l E l0 lh lb a0 ao aw an ab av nt pp rl hm sp td dt on nd br hm hf (by first | assumption | omega)) dX0_agreeingNow_6 rfl rfl (Nat.le_of_ble_eq_true rfl) (by decide) rfl rfl rfl (by decide) rfl (Rt.len rfl) (Rt.go ?_)
  refine v_w (ws' := [(l0, .inr (0, [.ref lh, .ref lb])), (lh, .inl (E.2.1 2, 8, .inr (.inl (openF hm on nd br hf rl)))), (lb, .inl (E.2.1 2, 6, .inr (.inl (bg)))), (a0, .inr (2, [.int (nI nt), .int (nI pp), .int (nI rl), .int (hm), .int (sp), .int (td), .int (dt), .ref ao, .ref aw, .ref an, .ref ab, .ref av])), (ao, .inl (E.2.1 1, 8, .inl (on))), (aw, .inl (E.2.1 1, 8, .inl (wr))), (an, .inl (E.2.1 1, 8, .inl (nd))), (ab, .inl (E.2.1 1, 8, .inl (br)))]) rfl ?_
  refine v_st (st' := []) rfl ?_
  refine v_aload_n (pc := 9) 0 dX0_agreeingNow_9 rfl rfl ?_
  refine v_aload_n (pc := 10) 1 dX0_agreeingNow_10 rfl rfl ?_
  refine v_aload_n (pc := 11) 1 dX0_agreeingNow_11 rfl rfl ?_
  refine v_callV (pc := 12) (rest := [.ref a0, .ref l0]) [3] 3 lk_554 (c_X2_allRules l E a0 ao aw an ab av nt pp rl hm sp td dt (by first | assumption | omega)) dX0_agreeingNow_12 rfl rfl (Nat.le_of_ble_eq_true rfl) (by decide) rfl rfl rfl (by decide) rfl (Rt.len rfl) (Rt.go ?_)
  refine v_w (ws' := [(l0, .inr (0, [.ref lh, .ref lb])), (lh, .inl (E.2.1 2, 8, .inr (.inl (openF hm on nd br hf rl)))), (lb, .inl (E.2.1 2, 6, .inr (.inl (bg)))), (a0, .inr (2, [.int (nI nt), .int (nI pp), .int (nI rl), .int (hm), .int (sp), .int (td), .int (dt), .ref ao, .ref aw, .ref an, .ref ab, .ref av])), (ao, .inl (E.2.1 1, 8, .inl (on))), (aw, .inl (E.2.1 1, 8, .inl (wr))), (an, .inl (E.2.1 1, 8, .inl (nd))), (ab, .inl (E.2.1 1, 8, .inl (br)))]) rfl ?_
  refine v_st (st' := [.int (nI (2 ^ rl - 1)), .ref a0, .ref l0]) rfl ?_
  refine v_aload_n (pc := 15) 1 dX0_agreeingNow_15 rfl rfl ?_
  refine gf_102 (pc := 16) 3 dX0_agreeingNow_16 rfl rfl ?_
  refine v_callV (pc := 19) (rest := []) [0, 1, 2, 3, 5] 0 lk_558 (c_X0_agreeing l E l0 lh lb a0 ao aw an ab av nt pp rl hm sp td dt on wr nd br (nI (2 ^ rl - 1)) sp hm (openF hm on nd br hf rl) bg w (by first | assumption | omega) (by first | assumption | omega) (by first | assumption | omega) open_ho) dX0_agreeingNow_19 rfl rfl (Nat.le_of_ble_eq_true rfl) (by decide) rfl rfl rfl (by decide) rfl (RtE1.len (fun _ => rfl)) (RtE1.go (fun bg_19 => ?_))
  refine v_w (ws' := [(l0, .inr (0, [.ref lh, .ref lb])), (lh, .inl (E.2.1 2, 8, .inr (.inl ((openF hm on nd br hf rl))))), (lb, .inl (E.2.1 2, 6, .inr (.inl (bg_19)))), (a0, .inr (2, [.int (nI nt), .int (nI pp), .int (nI rl), .int (hm), .int (sp), .int (td), .int (dt), .ref ao, .ref aw, .ref an, .ref ab, .ref av])), (ao, .inl (E.2.1 1, 8, .inl (on))), (aw, .inl (E.2.1 1, 8, .inl (wr))), (an, .inl (E.2.1 1, 8, .inl (nd))), (ab, .inl (E.2.1 1, 8, .inl (br)))]) rfl ?_
  refine v_st (st' := [.long (ag nt rl w (nI (2 ^ rl - 1)) sp hm on nd br)]) rfl ?_
  refine v_lret (pc := 22) dX0_agreeingNow_22 rfl ⟨rfl, rfl⟩ (RtE2.l ((openF hm on nd br hf rl)) (bg_19) ?_ ?_)
  · skip
    rfl
  · skip
    rfl
