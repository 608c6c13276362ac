/-! lines, third part -/
theorem c_X3_takeRule (l : Launch) (E : VE) (t0 : Nat) (b0 : Nat) (tb : Nat) (tl : Nat) (nx : Nat) (sa : Nat) (tf : Int32) (tp : Int32) (tk : Int32) (tv : Int32) (th : Int32) (tN : Int32) (tO : Int32) (tpd : Int32) (by_ : Nat → Int32) (bo : Nat) (bw : Nat) (bn : Nat) (bb : Nat) (bv : Nat) (rl : Nat) (kn : Nat) (kp : Nat) (hm : Int32) (sp : Int32) (td : Int32) (dt : Int32) (on : Nat → Int32) (wr : Nat → Int32) (nd : Nat → Int32) (br : Nat → Int32) (h_nx : nx ≤ tl) (h_tl : tl ≤ 160) (h_rl8 : rl ≤ 8) : Ct l E yX3_takeRule cX3_takeRule 7 (Option.some FieldType.boolean) 5 107 0 0 [.ref t0] [(t0, .inr (3, [.ref b0, .int (nI tl), .int (tf), .int (tp), .ref tb, .int (nI nx), .int (tk), .int (nI sa), .int (tv), .int (th), .int (tN), .int (tO), .int (tpd)])), (tb, .inl (E.2.1 0, 160, .inl (by_))), (b0, .inr (2, [.int (nI kn), .int (nI kp), .int (nI rl), .int (hm), .int (sp), .int (td), .int (dt), .ref bo, .ref bw, .ref bn, .ref bb, .ref bv])), (bo, .inl (E.2.1 1, 8, .inl (on))), (bw, .inl (E.2.1 1, 8, .inl (wr))), (bn, .inl (E.2.1 1, 8, .inl (nd))), (bb, .inl (E.2.1 1, 8, .inl (br)))] (fun v wd => ∃ (tf_ : Int32) (tp_ : Int32) (tx_ : Nat) (tk_ : Int32) (ts_ : Nat) (tv_ : Int32) (tN_ : Int32) (tO_ : Int32) (rl_ : Nat) (on_ : Nat → Int32) (wr_ : Nat → Int32) (nd_ : Nat → Int32) (br_ : Nat → Int32), v = some (.int (if (lnRule by_ tl nx sa rl tN).1 = 0 then 1 else 0)) ∧ wd = [(t0, .inr (3, [.ref b0, .int (nI tl), .int (tf_), .int (tp_), .ref tb, .int (nI tx_), .int (tk_), .int (nI ts_), .int (tv_), .int (th), .int (tN_), .int (tO_), .int (tpd)])), (tb, .inl (E.2.1 0, 160, .inl (by_))), (b0, .inr (2, [.int (nI kn), .int (nI kp), .int (nI rl_), .int (hm), .int (sp), .int (td), .int (dt), .ref bo, .ref bw, .ref bn, .ref bb, .ref bv])), (bo, .inl (E.2.1 1, 8, .inl (on_))), (bw, .inl (E.2.1 1, 8, .inl (wr_))), (bn, .inl (E.2.1 1, 8, .inl (nd_))), (bb, .inl (E.2.1 1, 8, .inl (br_)))] ∧ ((lnRule by_ tl nx sa rl tN).1 = 0 → tf_ = tf ∧ tx_ = (lnRule by_ tl nx sa rl tN).2 ∧ rl_ = rl + 1 ∧ on_ = upd on rl (tkV by_ tl nx 0) ∧ wr_ = upd wr rl (tkV by_ tl (tkN by_ tl nx) 0) ∧ nd_ = upd nd rl (rlR by_ tl nx tN).2.1 ∧ br_ = upd br rl (rlR by_ tl nx tN).2.2.1 ∧ tN_ = (rlR by_ tl nx tN).2.2.2 ∧ tO_ = tO ||| ((1 : Int32) <<< (tkV by_ tl nx 0 &&& 31))) ∧ (¬ (lnRule by_ tl nx sa rl tN).1 = 0 → tf_ = (lnRule by_ tl nx sa rl tN).1 ∧ tp_ = nI (lnRule by_ tl nx sa rl tN).2) ∧ (tx_ ≤ tl)) := by
  refine Ct.of (own := RX3) (nm := "takeRule") (lv := [(0, .ref t0)]) (by decide) rfl rfl (Nat.le_of_ble_eq_true rfl) rfl ?_
  refine v_aload_n (pc := 0) 0 dX3_takeRule_0 rfl rfl ?_
  refine gf_176 (pc := 1) 0 dX3_takeRule_1 rfl rfl ?_
  refine gf_97 (pc := 4) 2 dX3_takeRule_4 rfl rfl ?_
  refine v_bipush (pc := 7) (v := 8) dX3_takeRule_7 (by decide) ?_
  refine v_cmpN_lt (pc := 9) (a := rl) (b := 8) 22 dX3_takeRule_9 (by decide) (by omega) (by omega) (fun c_9 => ?_) (fun c_9 => ?_)
  · skip
    refine v_aload_n (pc := 22) 0 dX3_takeRule_22 rfl rfl ?_
    refine v_callV (pc := 23) (rest := []) [0, 1] 0 lk_301 (c_X3_takeToken l E t0 b0 tb tl nx sa tf tp tk tv th tN tO tpd by_ (by first | assumption | omega) (by first | assumption | omega)) dX3_takeRule_23 rfl rfl (Nat.le_of_ble_eq_true rfl) (by decide) rfl rfl rfl (by decide) rfl (Rt.len rfl) (Rt.go ?_)
    refine v_w (ws' := [(t0, .inr (3, [.ref b0, .int (nI tl), .int (if tkO by_ tl nx = true then tf else 1), .int (if tkO by_ tl nx = true then tp else nI (tkS by_ tl nx)), .ref tb, .int (nI (tkN by_ tl nx)), .int (tkK by_ tl nx), .int (nI (tkS by_ tl nx)), .int (tkV by_ tl nx tv), .int (th), .int (tN), .int (tO), .int (tpd)])), (tb, .inl (E.2.1 0, 160, .inl (by_))), (b0, .inr (2, [.int (nI kn), .int (nI kp), .int (nI rl), .int (hm), .int (sp), .int (td), .int (dt), .ref bo, .ref bw, .ref bn, .ref bb, .ref bv])), (bo, .inl (E.2.1 1, 8, .inl (on))), (bw, .inl (E.2.1 1, 8, .inl (wr))), (bn, .inl (E.2.1 1, 8, .inl (nd))), (bb, .inl (E.2.1 1, 8, .inl (br)))]) rfl ?_
    refine v_st (st' := [.int (if tkO by_ tl nx = true then 1 else 0)]) rfl ?_
    refine v_ifB_eq (pc := 26) 36 dX3_takeRule_26 (by decide) (fun c_26 => ?_) (fun c_26 => ?_)
    · skip
      refine v_iconst (pc := 36) (v := 0) dX3_takeRule_36 (by decide) ?_
      refine v_zret (pc := 37) dX3_takeRule_37 rfl rfl ⟨rfl, rfl⟩ ⟨(if tkO by_ tl nx = true then tf else 1), (if tkO by_ tl nx = true then tp else nI (tkS by_ tl nx)), (tkN by_ tl nx), (tkK by_ tl nx), (tkS by_ tl nx), (tkV by_ tl nx tv), (tN), (tO), (rl), (on), (wr), (nd), (br), ?_, rfl, ?_, ?_, ?_⟩
      · skip
        have hc : lnRule by_ tl nx sa rl tN = (1, tkS by_ tl nx) := by have ht : lnRule by_ tl nx sa rl tN = ckN by_ tl nx 0 3 (ckA by_ tl (tkN by_ tl nx) 0 (rlR by_ tl nx tN).1) := if_pos c_9; exact ht.trans (ckN_t c_26)
        rw [hc]; rfl
      · skip
        have hc : lnRule by_ tl nx sa rl tN = (1, tkS by_ tl nx) := by have ht : lnRule by_ tl nx sa rl tN = ckN by_ tl nx 0 3 (ckA by_ tl (tkN by_ tl nx) 0 (rlR by_ tl nx tN).1) := if_pos c_9; exact ht.trans (ckN_t c_26)
        rw [hc]; exact fun q => absurd q (show ¬ (1 : Int32) = 0 by decide)
      · skip
        have hc : lnRule by_ tl nx sa rl tN = (1, tkS by_ tl nx) := by have ht : lnRule by_ tl nx sa rl tN = ckN by_ tl nx 0 3 (ckA by_ tl (tkN by_ tl nx) 0 (rlR by_ tl nx tN).1) := if_pos c_9; exact ht.trans (ckN_t c_26)
        rw [hc]; exact fun _ => ⟨if_neg c_26, if_neg c_26⟩
      · skip
        exact (tkN_b h_nx).2
    · skip
      refine v_aload_n (pc := 29) 0 dX3_takeRule_29 rfl rfl ?_
      refine v_callV (pc := 30) (rest := []) [0] 0 lk_389 (c_X3_isOne l E t0 b0 tb tl (tkN by_ tl nx) (tkS by_ tl nx) (if tkO by_ tl nx = true then tf else 1) (if tkO by_ tl nx = true then tp else nI (tkS by_ tl nx)) (tkK by_ tl nx) (tkV by_ tl nx tv) th tN tO tpd) dX3_takeRule_30 rfl rfl (Nat.le_of_ble_eq_true rfl) (by decide) rfl rfl rfl (by decide) rfl (Rt.len rfl) (Rt.go ?_)
      refine v_w (ws' := [(t0, .inr (3, [.ref b0, .int (nI tl), .int (if numC (tkK by_ tl nx) (tkV by_ tl nx tv) 0 3 = 0 then (if tkO by_ tl nx = true then tf else 1) else numC (tkK by_ tl nx) (tkV by_ tl nx tv) 0 3), .int (if numC (tkK by_ tl nx) (tkV by_ tl nx tv) 0 3 = 0 then (if tkO by_ tl nx = true then tp else nI (tkS by_ tl nx)) else nI (tkS by_ tl nx)), .ref tb, .int (nI (tkN by_ tl nx)), .int ((tkK by_ tl nx)), .int (nI (tkS by_ tl nx)), .int ((tkV by_ tl nx tv)), .int (th), .int (tN), .int (if numC (tkK by_ tl nx) (tkV by_ tl nx tv) 0 3 = 0 then tO ||| ((1 : Int32) <<< ((tkV by_ tl nx tv) &&& 31)) else tO), .int (tpd)])), (tb, .inl (E.2.1 0, 160, .inl (by_))), (b0, .inr (2, [.int (nI kn), .int (nI kp), .int (nI rl), .int (hm), .int (sp), .int (td), .int (dt), .ref bo, .ref bw, .ref bn, .ref bb, .ref bv])), (bo, .inl (E.2.1 1, 8, .inl (on))), (bw, .inl (E.2.1 1, 8, .inl (wr))), (bn, .inl (E.2.1 1, 8, .inl (nd))), (bb, .inl (E.2.1 1, 8, .inl (br)))]) rfl ?_
      refine v_st (st' := [.int (if numC (tkK by_ tl nx) (tkV by_ tl nx tv) 0 3 = 0 then 1 else 0)]) rfl ?_
      refine v_ifB_ne (pc := 33) 38 dX3_takeRule_33 (by decide) (fun c_33 => ?_) (fun c_33 => ?_)
      · skip
        obtain ⟨hcA, hnA, hvA⟩ := ckN_ok (k := ckA by_ tl (tkN by_ tl nx) 0 (rlR by_ tl nx tN).1) tv c_26 c_33
        refine v_aload_n (pc := 38) 0 dX3_takeRule_38 rfl rfl ?_
        refine gf_188 (pc := 39) 0 dX3_takeRule_39 rfl rfl ?_
        refine v_st (st' := [.int (tkV by_ tl nx 0)]) (by rw [hvA]) ?_
        refine v_istore_n (pc := 42) (lv' := [(1, .int (tkV by_ tl nx 0)), (0, .ref t0)]) dX3_takeRule_42 rfl (by decide) rfl ?_
        refine v_aload_n (pc := 43) 1 dX3_takeRule_43 rfl rfl ?_
        refine v_callV (pc := 44) (rest := []) [0, 1] 0 lk_301 (c_X3_takeToken l E t0 b0 tb tl (tkN by_ tl nx) (tkS by_ tl nx) (if numC (tkK by_ tl nx) (tkV by_ tl nx tv) 0 3 = 0 then (if tkO by_ tl nx = true then tf else 1) else numC (tkK by_ tl nx) (tkV by_ tl nx tv) 0 3) (if numC (tkK by_ tl nx) (tkV by_ tl nx tv) 0 3 = 0 then (if tkO by_ tl nx = true then tp else nI (tkS by_ tl nx)) else nI (tkS by_ tl nx)) (tkK by_ tl nx) (tkV by_ tl nx tv) th tN (if numC (tkK by_ tl nx) (tkV by_ tl nx tv) 0 3 = 0 then tO ||| ((1 : Int32) <<< ((tkV by_ tl nx tv) &&& 31)) else tO) tpd by_ (tkN_b h_nx).2 h_tl) dX3_takeRule_44 rfl rfl (Nat.le_of_ble_eq_true rfl) (by decide) rfl rfl rfl (by decide) rfl (Rt.len rfl) (Rt.go ?_)
        refine v_w (ws' := [(t0, .inr (3, [.ref b0, .int (nI tl), .int (if tkO by_ tl (tkN by_ tl nx) = true then (if numC (tkK by_ tl nx) (tkV by_ tl nx tv) 0 3 = 0 then (if tkO by_ tl nx = true then tf else 1) else numC (tkK by_ tl nx) (tkV by_ tl nx tv) 0 3) else 1), .int (if tkO by_ tl (tkN by_ tl nx) = true then (if numC (tkK by_ tl nx) (tkV by_ tl nx tv) 0 3 = 0 then (if tkO by_ tl nx = true then tp else nI (tkS by_ tl nx)) else nI (tkS by_ tl nx)) else nI (tkS by_ tl (tkN by_ tl nx))), .ref tb, .int (nI (tkN by_ tl (tkN by_ tl nx))), .int (tkK by_ tl (tkN by_ tl nx)), .int (nI (tkS by_ tl (tkN by_ tl nx))), .int (tkV by_ tl (tkN by_ tl nx) (tkV by_ tl nx tv)), .int (th), .int (tN), .int ((if numC (tkK by_ tl nx) (tkV by_ tl nx tv) 0 3 = 0 then tO ||| ((1 : Int32) <<< ((tkV by_ tl nx tv) &&& 31)) else tO)), .int (tpd)])), (tb, .inl (E.2.1 0, 160, .inl (by_))), (b0, .inr (2, [.int (nI kn), .int (nI kp), .int (nI rl), .int (hm), .int (sp), .int (td), .int (dt), .ref bo, .ref bw, .ref bn, .ref bb, .ref bv])), (bo, .inl (E.2.1 1, 8, .inl (on))), (bw, .inl (E.2.1 1, 8, .inl (wr))), (bn, .inl (E.2.1 1, 8, .inl (nd))), (bb, .inl (E.2.1 1, 8, .inl (br)))]) rfl ?_
        refine v_st (st' := [.int (if tkO by_ tl (tkN by_ tl nx) = true then 1 else 0)]) rfl ?_
        refine v_ifB_eq (pc := 47) 58 dX3_takeRule_47 (by decide) (fun c_47 => ?_) (fun c_47 => ?_)
        · skip
          refine v_iconst (pc := 58) (v := 0) dX3_takeRule_58 (by decide) ?_
          refine v_zret (pc := 59) dX3_takeRule_59 rfl rfl ⟨rfl, rfl⟩ ⟨(if tkO by_ tl (tkN by_ tl nx) = true then (if numC (tkK by_ tl nx) (tkV by_ tl nx tv) 0 3 = 0 then (if tkO by_ tl nx = true then tf else 1) else numC (tkK by_ tl nx) (tkV by_ tl nx tv) 0 3) else 1), (if tkO by_ tl (tkN by_ tl nx) = true then (if numC (tkK by_ tl nx) (tkV by_ tl nx tv) 0 3 = 0 then (if tkO by_ tl nx = true then tp else nI (tkS by_ tl nx)) else nI (tkS by_ tl nx)) else nI (tkS by_ tl (tkN by_ tl nx))), (tkN by_ tl (tkN by_ tl nx)), (tkK by_ tl (tkN by_ tl nx)), (tkS by_ tl (tkN by_ tl nx)), (tkV by_ tl (tkN by_ tl nx) (tkV by_ tl nx tv)), (tN), ((if numC (tkK by_ tl nx) (tkV by_ tl nx tv) 0 3 = 0 then tO ||| ((1 : Int32) <<< ((tkV by_ tl nx tv) &&& 31)) else tO)), (rl), (on), (wr), (nd), (br), ?_, rfl, ?_, ?_, ?_⟩
          · skip
            have hc : lnRule by_ tl nx sa rl tN = (1, tkS by_ tl (tkN by_ tl nx)) := by have ht : lnRule by_ tl nx sa rl tN = ckN by_ tl nx 0 3 (ckA by_ tl (tkN by_ tl nx) 0 (rlR by_ tl nx tN).1) := if_pos c_9; exact (ht.trans hcA).trans (ckA_t c_47)
            rw [hc]; rfl
          · skip
            have hc : lnRule by_ tl nx sa rl tN = (1, tkS by_ tl (tkN by_ tl nx)) := by have ht : lnRule by_ tl nx sa rl tN = ckN by_ tl nx 0 3 (ckA by_ tl (tkN by_ tl nx) 0 (rlR by_ tl nx tN).1) := if_pos c_9; exact (ht.trans hcA).trans (ckA_t c_47)
            rw [hc]; exact fun q => absurd q (show ¬ (1 : Int32) = 0 by decide)
          · skip
            have hc : lnRule by_ tl nx sa rl tN = (1, tkS by_ tl (tkN by_ tl nx)) := by have ht : lnRule by_ tl nx sa rl tN = ckN by_ tl nx 0 3 (ckA by_ tl (tkN by_ tl nx) 0 (rlR by_ tl nx tN).1) := if_pos c_9; exact (ht.trans hcA).trans (ckA_t c_47)
            rw [hc]; exact fun _ => ⟨if_neg c_47, if_neg c_47⟩
          · skip
            exact (tkN_b (tkN_b h_nx).2).2
        · skip
          refine v_aload_n (pc := 50) 1 dX3_takeRule_50 rfl rfl ?_
          refine v_iconst (pc := 51) (v := 0) dX3_takeRule_51 (by decide) ?_
          refine v_callV (pc := 52) (rest := []) [0] 0 lk_393 (c_X3_isNoteNotIn l E t0 b0 tb tl (tkN by_ tl (tkN by_ tl nx)) (tkS by_ tl (tkN by_ tl nx)) (if tkO by_ tl (tkN by_ tl nx) = true then (if numC (tkK by_ tl nx) (tkV by_ tl nx tv) 0 3 = 0 then (if tkO by_ tl nx = true then tf else 1) else numC (tkK by_ tl nx) (tkV by_ tl nx tv) 0 3) else 1) (if tkO by_ tl (tkN by_ tl nx) = true then (if numC (tkK by_ tl nx) (tkV by_ tl nx tv) 0 3 = 0 then (if tkO by_ tl nx = true then tp else nI (tkS by_ tl nx)) else nI (tkS by_ tl nx)) else nI (tkS by_ tl (tkN by_ tl nx))) (tkK by_ tl (tkN by_ tl nx)) (tkV by_ tl (tkN by_ tl nx) (tkV by_ tl nx tv)) th tN (if numC (tkK by_ tl nx) (tkV by_ tl nx tv) 0 3 = 0 then tO ||| ((1 : Int32) <<< ((tkV by_ tl nx tv) &&& 31)) else tO) tpd 0) dX3_takeRule_52 rfl rfl (Nat.le_of_ble_eq_true rfl) (by decide) rfl rfl rfl (by decide) rfl (Rt.len rfl) (Rt.go ?_)
          refine v_w (ws' := [(t0, .inr (3, [.ref b0, .int (nI tl), .int (if ntC (tkK by_ tl (tkN by_ tl nx)) (tkV by_ tl (tkN by_ tl nx) (tkV by_ tl nx tv)) 0 = 0 then (if tkO by_ tl (tkN by_ tl nx) = true then (if numC (tkK by_ tl nx) (tkV by_ tl nx tv) 0 3 = 0 then (if tkO by_ tl nx = true then tf else 1) else numC (tkK by_ tl nx) (tkV by_ tl nx tv) 0 3) else 1) else ntC (tkK by_ tl (tkN by_ tl nx)) (tkV by_ tl (tkN by_ tl nx) (tkV by_ tl nx tv)) 0), .int (if ntC (tkK by_ tl (tkN by_ tl nx)) (tkV by_ tl (tkN by_ tl nx) (tkV by_ tl nx tv)) 0 = 0 then (if tkO by_ tl (tkN by_ tl nx) = true then (if numC (tkK by_ tl nx) (tkV by_ tl nx tv) 0 3 = 0 then (if tkO by_ tl nx = true then tp else nI (tkS by_ tl nx)) else nI (tkS by_ tl nx)) else nI (tkS by_ tl (tkN by_ tl nx))) else nI (tkS by_ tl (tkN by_ tl nx))), .ref tb, .int (nI (tkN by_ tl (tkN by_ tl nx))), .int ((tkK by_ tl (tkN by_ tl nx))), .int (nI (tkS by_ tl (tkN by_ tl nx))), .int ((tkV by_ tl (tkN by_ tl nx) (tkV by_ tl nx tv))), .int (th), .int (if numC (tkK by_ tl (tkN by_ tl nx)) (tkV by_ tl (tkN by_ tl nx) (tkV by_ tl nx tv)) 0 5 = 0 then tN ||| ((1 : Int32) <<< ((tkV by_ tl (tkN by_ tl nx) (tkV by_ tl nx tv)) &&& 31)) else tN), .int ((if numC (tkK by_ tl nx) (tkV by_ tl nx tv) 0 3 = 0 then tO ||| ((1 : Int32) <<< ((tkV by_ tl nx tv) &&& 31)) else tO)), .int (tpd)])), (tb, .inl (E.2.1 0, 160, .inl (by_))), (b0, .inr (2, [.int (nI kn), .int (nI kp), .int (nI rl), .int (hm), .int (sp), .int (td), .int (dt), .ref bo, .ref bw, .ref bn, .ref bb, .ref bv])), (bo, .inl (E.2.1 1, 8, .inl (on))), (bw, .inl (E.2.1 1, 8, .inl (wr))), (bn, .inl (E.2.1 1, 8, .inl (nd))), (bb, .inl (E.2.1 1, 8, .inl (br)))]) rfl ?_
          refine v_st (st' := [.int (if ntC (tkK by_ tl (tkN by_ tl nx)) (tkV by_ tl (tkN by_ tl nx) (tkV by_ tl nx tv)) 0 = 0 then 1 else 0)]) rfl ?_
          refine v_ifB_ne (pc := 55) 60 dX3_takeRule_55 (by decide) (fun c_55 => ?_) (fun c_55 => ?_)
          · skip
            obtain ⟨hcB, hnB, hvB, hqB⟩ := ckA_ok (k := (rlR by_ tl nx tN).1) _ c_47 c_55
            refine v_aload_n (pc := 60) 1 dX3_takeRule_60 rfl rfl ?_
            refine gf_188 (pc := 61) 0 dX3_takeRule_61 rfl rfl ?_
            refine v_st (st' := [.int (tkV by_ tl (tkN by_ tl nx) 0)]) (by rw [hvB]) ?_
            refine v_istore_n (pc := 64) (lv' := [(2, .int (tkV by_ tl (tkN by_ tl nx) 0)), (1, .int (tkV by_ tl nx 0)), (0, .ref t0)]) dX3_takeRule_64 rfl (by decide) rfl ?_
            refine v_iconst (pc := 65) (v := 0) dX3_takeRule_65 (by decide) ?_
            refine v_istore_n (pc := 66) (lv' := [(3, .int (0)), (2, .int (tkV by_ tl (tkN by_ tl nx) 0)), (1, .int (tkV by_ tl nx 0)), (0, .ref t0)]) dX3_takeRule_66 rfl (by decide) rfl ?_
            refine v_iconst (pc := 67) (v := 0) dX3_takeRule_67 (by decide) ?_
            refine v_istore (pc := 68) (lv' := [(4, .int (0)), (3, .int (0)), (2, .int (tkV by_ tl (tkN by_ tl nx) 0)), (1, .int (tkV by_ tl nx 0)), (0, .ref t0)]) dX3_takeRule_68 (by decide) rfl ?_
            refine v_iconst (pc := 70) (v := 0) dX3_takeRule_70 (by decide) ?_
            refine v_istore (pc := 71) (lv' := [(5, .int (0)), (4, .int (0)), (3, .int (0)), (2, .int (tkV by_ tl (tkN by_ tl nx) 0)), (1, .int (tkV by_ tl nx 0)), (0, .ref t0)]) dX3_takeRule_71 (by decide) rfl ?_
            refine v_iconst (pc := 73) (v := 0) dX3_takeRule_73 (by decide) ?_
            refine v_istore (pc := 74) (lv' := [(6, .int (0)), (5, .int (0)), (4, .int (0)), (3, .int (0)), (2, .int (tkV by_ tl (tkN by_ tl nx) 0)), (1, .int (tkV by_ tl nx 0)), (0, .ref t0)]) dX3_takeRule_74 (by decide) rfl ?_
            have loop_76 : ∀ (D_76 : Nat) (i : Nat) (p : Nat) (xf : Int32) (xp : Int32) (ks : Int32) (ss : Nat) (vs : Int32) (nn : Int32) (nd_ : Int32) (br_ : Int32) (bn_ : Int32), tl + 1 - i < D_76 → (p ≤ tl) → (rlR by_ tl nx tN = rlP by_ tl (tl + 1 - i) p nd_ br_ bn_ nn) → (xf = tf) → (i ≤ tl + 1) → V l E RX3 cX3_takeRule 7 (Option.some FieldType.boolean) "takeRule" ({ frames := 5, cells := 0, slots := 0, locals := 107 }) [(t0, .inr (3, [.ref b0, .int (nI tl), .int (tf), .int (tp), .ref tb, .int (nI nx), .int (tk), .int (nI sa), .int (tv), .int (th), .int (tN), .int (tO), .int (tpd)])), (tb, .inl (E.2.1 0, 160, .inl (by_))), (b0, .inr (2, [.int (nI kn), .int (nI kp), .int (nI rl), .int (hm), .int (sp), .int (td), .int (dt), .ref bo, .ref bw, .ref bn, .ref bb, .ref bv])), (bo, .inl (E.2.1 1, 8, .inl (on))), (bw, .inl (E.2.1 1, 8, .inl (wr))), (bn, .inl (E.2.1 1, 8, .inl (nd))), (bb, .inl (E.2.1 1, 8, .inl (br)))] 0 0 (fun v wd => ∃ (tf_ : Int32) (tp_ : Int32) (tx_ : Nat) (tk_ : Int32) (ts_ : Nat) (tv_ : Int32) (tN_ : Int32) (tO_ : Int32) (rl_ : Nat) (on_ : Nat → Int32) (wr_ : Nat → Int32) (nd_ : Nat → Int32) (br_ : Nat → Int32), v = some (.int (if (lnRule by_ tl nx sa rl tN).1 = 0 then 1 else 0)) ∧ wd = [(t0, .inr (3, [.ref b0, .int (nI tl), .int (tf_), .int (tp_), .ref tb, .int (nI tx_), .int (tk_), .int (nI ts_), .int (tv_), .int (th), .int (tN_), .int (tO_), .int (tpd)])), (tb, .inl (E.2.1 0, 160, .inl (by_))), (b0, .inr (2, [.int (nI kn), .int (nI kp), .int (nI rl_), .int (hm), .int (sp), .int (td), .int (dt), .ref bo, .ref bw, .ref bn, .ref bb, .ref bv])), (bo, .inl (E.2.1 1, 8, .inl (on_))), (bw, .inl (E.2.1 1, 8, .inl (wr_))), (bn, .inl (E.2.1 1, 8, .inl (nd_))), (bb, .inl (E.2.1 1, 8, .inl (br_)))] ∧ ((lnRule by_ tl nx sa rl tN).1 = 0 → tf_ = tf ∧ tx_ = (lnRule by_ tl nx sa rl tN).2 ∧ rl_ = rl + 1 ∧ on_ = upd on rl (tkV by_ tl nx 0) ∧ wr_ = upd wr rl (tkV by_ tl (tkN by_ tl nx) 0) ∧ nd_ = upd nd rl (rlR by_ tl nx tN).2.1 ∧ br_ = upd br rl (rlR by_ tl nx tN).2.2.1 ∧ tN_ = (rlR by_ tl nx tN).2.2.2 ∧ tO_ = tO ||| ((1 : Int32) <<< (tkV by_ tl nx 0 &&& 31))) ∧ (¬ (lnRule by_ tl nx sa rl tN).1 = 0 → tf_ = (lnRule by_ tl nx sa rl tN).1 ∧ tp_ = nI (lnRule by_ tl nx sa rl tN).2) ∧ (tx_ ≤ tl)) 0 0 76 [(6, .int (nI i)), (5, .int (bn_)), (4, .int (br_)), (3, .int (nd_)), (2, .int (tkV by_ tl (tkN by_ tl nx) 0)), (1, .int (tkV by_ tl nx 0)), (0, .ref t0)] [] [(t0, .inr (3, [.ref b0, .int (nI tl), .int (xf), .int (xp), .ref tb, .int (nI p), .int (ks), .int (nI ss), .int (vs), .int (th), .int (nn), .int ((if numC (tkK by_ tl nx) (tkV by_ tl nx tv) 0 3 = 0 then tO ||| ((1 : Int32) <<< ((tkV by_ tl nx tv) &&& 31)) else tO)), .int (tpd)])), (tb, .inl (E.2.1 0, 160, .inl (by_))), (b0, .inr (2, [.int (nI kn), .int (nI kp), .int (nI rl), .int (hm), .int (sp), .int (td), .int (dt), .ref bo, .ref bw, .ref bn, .ref bb, .ref bv])), (bo, .inl (E.2.1 1, 8, .inl (on))), (bw, .inl (E.2.1 1, 8, .inl (wr))), (bn, .inl (E.2.1 1, 8, .inl (nd))), (bb, .inl (E.2.1 1, 8, .inl (br)))] := by
              intro D_76
              induction D_76 with
              | zero => intro i p xf xp ks ss vs nn nd_ br_ bn_ h; exact absurd h (Nat.not_lt_zero _)
              | succ D_76 ih_76 =>
                intro i p xf xp ks ss vs nn nd_ br_ bn_ hmu_76 h_76_0 h_76_1 h_76_2 h_76_3
                refine v_iload (pc := 76) 0 dX3_takeRule_76 rfl ?_
                refine v_aload_n (pc := 78) 6 dX3_takeRule_78 rfl rfl ?_
                refine gf_178 (pc := 79) 0 dX3_takeRule_79 rfl rfl ?_
                refine v_cmpN_gt (pc := 82) (a := i) (b := tl) 193 dX3_takeRule_82 (by decide) (by omega) (by omega) (fun c_82 => ?_) (fun c_82 => ?_)
                · skip
                  refine v_aload_n (pc := 193) 6 dX3_takeRule_193 rfl rfl ?_
                  refine v_iconst (pc := 194) (v := 2) dX3_takeRule_194 (by decide) ?_
                  refine v_aload_n (pc := 195) 6 dX3_takeRule_195 rfl rfl ?_
                  refine gf_178 (pc := 196) 0 dX3_takeRule_196 rfl rfl ?_
                  refine v_callV (pc := 199) (rest := []) [0] 0 lk_311 (c_X3_fail l E t0 b0 tb tl p ss xf xp ks vs th nn (if numC (tkK by_ tl nx) (tkV by_ tl nx tv) 0 3 = 0 then tO ||| ((1 : Int32) <<< ((tkV by_ tl nx tv) &&& 31)) else tO) tpd 2 (nI tl)) dX3_takeRule_199 rfl rfl (Nat.le_of_ble_eq_true rfl) (by decide) rfl rfl rfl (by decide) rfl (Rt.len rfl) (Rt.go ?_)
                  refine v_w (ws' := [(t0, .inr (3, [.ref b0, .int (nI tl), .int (2), .int ((nI tl)), .ref tb, .int (nI p), .int (ks), .int (nI ss), .int (vs), .int (th), .int (nn), .int ((if numC (tkK by_ tl nx) (tkV by_ tl nx tv) 0 3 = 0 then tO ||| ((1 : Int32) <<< ((tkV by_ tl nx tv) &&& 31)) else tO)), .int (tpd)])), (tb, .inl (E.2.1 0, 160, .inl (by_))), (b0, .inr (2, [.int (nI kn), .int (nI kp), .int (nI rl), .int (hm), .int (sp), .int (td), .int (dt), .ref bo, .ref bw, .ref bn, .ref bb, .ref bv])), (bo, .inl (E.2.1 1, 8, .inl (on))), (bw, .inl (E.2.1 1, 8, .inl (wr))), (bn, .inl (E.2.1 1, 8, .inl (nd))), (bb, .inl (E.2.1 1, 8, .inl (br)))]) rfl ?_
                  refine v_st (st' := [.int (0)]) rfl ?_
                  refine v_zret (pc := 202) dX3_takeRule_202 rfl rfl ⟨rfl, rfl⟩ ⟨(2), ((nI tl)), (p), (ks), (ss), (vs), (nn), ((if numC (tkK by_ tl nx) (tkV by_ tl nx tv) 0 3 = 0 then tO ||| ((1 : Int32) <<< ((tkV by_ tl nx tv) &&& 31)) else tO)), (rl), (on), (wr), (nd), (br), ?_, rfl, ?_, ?_, ?_⟩
                  · skip
                    have hR : rlR by_ tl nx tN = ((2, tl), nd_, br_, nn) := by rw [h_76_1, show tl + 1 - i = 0 by omega]; rfl
                    have hc : lnRule by_ tl nx sa rl tN = (2, tl) := by have ht : lnRule by_ tl nx sa rl tN = ckN by_ tl nx 0 3 (ckA by_ tl (tkN by_ tl nx) 0 (rlR by_ tl nx tN).1) := if_pos c_9; rw [ht, hcA, hcB, hR]
                    rw [hc]; rfl
                  · skip
                    have hR : rlR by_ tl nx tN = ((2, tl), nd_, br_, nn) := by rw [h_76_1, show tl + 1 - i = 0 by omega]; rfl
                    have hc : lnRule by_ tl nx sa rl tN = (2, tl) := by have ht : lnRule by_ tl nx sa rl tN = ckN by_ tl nx 0 3 (ckA by_ tl (tkN by_ tl nx) 0 (rlR by_ tl nx tN).1) := if_pos c_9; rw [ht, hcA, hcB, hR]
                    rw [hc]; exact fun q => absurd q (show ¬ (2 : Int32) = 0 by decide)
                  · skip
                    have hR : rlR by_ tl nx tN = ((2, tl), nd_, br_, nn) := by rw [h_76_1, show tl + 1 - i = 0 by omega]; rfl
                    have hc : lnRule by_ tl nx sa rl tN = (2, tl) := by have ht : lnRule by_ tl nx sa rl tN = ckN by_ tl nx 0 3 (ckA by_ tl (tkN by_ tl nx) 0 (rlR by_ tl nx tN).1) := if_pos c_9; rw [ht, hcA, hcB, hR]
                    rw [hc]; exact fun _ => ⟨rfl, rfl⟩
                  · skip
                    exact h_76_0
                · skip
                  refine v_aload_n (pc := 85) 6 dX3_takeRule_85 rfl rfl ?_
                  refine v_callV (pc := 86) (rest := []) [0, 1] 0 lk_301 (c_X3_takeToken l E t0 b0 tb tl p ss xf xp ks vs th nn (if numC (tkK by_ tl nx) (tkV by_ tl nx tv) 0 3 = 0 then tO ||| ((1 : Int32) <<< ((tkV by_ tl nx tv) &&& 31)) else tO) tpd by_ h_76_0 h_tl) dX3_takeRule_86 rfl rfl (Nat.le_of_ble_eq_true rfl) (by decide) rfl rfl rfl (by decide) rfl (Rt.len rfl) (Rt.go ?_)
                  refine v_w (ws' := [(t0, .inr (3, [.ref b0, .int (nI tl), .int (if tkO by_ tl p = true then xf else 1), .int (if tkO by_ tl p = true then xp else nI (tkS by_ tl p)), .ref tb, .int (nI (tkN by_ tl p)), .int (tkK by_ tl p), .int (nI (tkS by_ tl p)), .int (tkV by_ tl p vs), .int (th), .int (nn), .int ((if numC (tkK by_ tl nx) (tkV by_ tl nx tv) 0 3 = 0 then tO ||| ((1 : Int32) <<< ((tkV by_ tl nx tv) &&& 31)) else tO)), .int (tpd)])), (tb, .inl (E.2.1 0, 160, .inl (by_))), (b0, .inr (2, [.int (nI kn), .int (nI kp), .int (nI rl), .int (hm), .int (sp), .int (td), .int (dt), .ref bo, .ref bw, .ref bn, .ref bb, .ref bv])), (bo, .inl (E.2.1 1, 8, .inl (on))), (bw, .inl (E.2.1 1, 8, .inl (wr))), (bn, .inl (E.2.1 1, 8, .inl (nd))), (bb, .inl (E.2.1 1, 8, .inl (br)))]) rfl ?_
                  refine v_st (st' := [.int (if tkO by_ tl p = true then 1 else 0)]) rfl ?_
                  refine v_ifB_ne (pc := 89) 94 dX3_takeRule_89 (by decide) (fun c_89 => ?_) (fun c_89 => ?_)
                  · skip
                    refine v_aload_n (pc := 94) 6 dX3_takeRule_94 rfl rfl ?_
                    refine gf_186 (pc := 95) 0 dX3_takeRule_95 rfl rfl ?_
                    refine v_iconst (pc := 98) (v := 3) dX3_takeRule_98 (by decide) ?_
                    refine v_icmp_ne (pc := 99) 126 dX3_takeRule_99 (by decide) (fun c_99 => ?_) (fun c_99 => ?_)
                    · skip
                      refine v_aload_n (pc := 126) 6 dX3_takeRule_126 rfl rfl ?_
                      refine v_ldcS (pc := 127) 2 (by decide) rfl rfl dX3_takeRule_127 ?_
                      refine v_callV (pc := 129) (rest := []) [0, 1] 0 lk_320 (c_X3_isName l E t0 b0 tb tl (tkN by_ tl p) (tkS by_ tl p) (if tkO by_ tl p = true then xf else 1) (if tkO by_ tl p = true then xp else nI (tkS by_ tl p)) (tkK by_ tl p) (tkV by_ tl p vs) th nn (if numC (tkK by_ tl nx) (tkV by_ tl nx tv) 0 3 = 0 then tO ||| ((1 : Int32) <<< ((tkV by_ tl nx tv) &&& 31)) else tO) tpd by_ 2 (by decide) (tkN_b h_76_0).1 (tkN_b h_76_0).2 h_tl) dX3_takeRule_129 rfl rfl (Nat.le_of_ble_eq_true rfl) (by decide) rfl rfl rfl (by decide) rfl (Rt.len rfl) (Rt.go ?_)
                      refine v_w (ws' := [(t0, .inr (3, [.ref b0, .int (nI tl), .int ((if tkO by_ tl p = true then xf else 1)), .int ((if tkO by_ tl p = true then xp else nI (tkS by_ tl p))), .ref tb, .int (nI (tkN by_ tl p)), .int ((tkK by_ tl p)), .int (nI (tkS by_ tl p)), .int ((tkV by_ tl p vs)), .int (th), .int (nn), .int ((if numC (tkK by_ tl nx) (tkV by_ tl nx tv) 0 3 = 0 then tO ||| ((1 : Int32) <<< ((tkV by_ tl nx tv) &&& 31)) else tO)), .int (tpd)])), (tb, .inl (E.2.1 0, 160, .inl (by_))), (b0, .inr (2, [.int (nI kn), .int (nI kp), .int (nI rl), .int (hm), .int (sp), .int (td), .int (dt), .ref bo, .ref bw, .ref bn, .ref bb, .ref bv])), (bo, .inl (E.2.1 1, 8, .inl (on))), (bw, .inl (E.2.1 1, 8, .inl (wr))), (bn, .inl (E.2.1 1, 8, .inl (nd))), (bb, .inl (E.2.1 1, 8, .inl (br)))]) rfl ?_
                      refine v_st (st' := [.int (if nmB (tkK by_ tl p) by_ (tkS by_ tl p) (tkN by_ tl p) 2 = true then 1 else 0)]) rfl ?_
                      refine v_ifB_eq (pc := 132) 146 dX3_takeRule_132 (by decide) (fun c_132 => ?_) (fun c_132 => ?_)
                      · skip
                        refine v_aload_n (pc := 146) 6 dX3_takeRule_146 rfl rfl ?_
                        refine v_iload_n (pc := 147) 3 dX3_takeRule_147 rfl rfl ?_
                        refine v_iload (pc := 148) 2 dX3_takeRule_148 rfl ?_
                        refine v_ior (pc := 150) dX3_takeRule_150 ?_
                        refine v_callV (pc := 151) (rest := []) [0] 0 lk_393 (c_X3_isNoteNotIn l E t0 b0 tb tl (tkN by_ tl p) (tkS by_ tl p) (if tkO by_ tl p = true then xf else 1) (if tkO by_ tl p = true then xp else nI (tkS by_ tl p)) (tkK by_ tl p) (tkV by_ tl p vs) th nn (if numC (tkK by_ tl nx) (tkV by_ tl nx tv) 0 3 = 0 then tO ||| ((1 : Int32) <<< ((tkV by_ tl nx tv) &&& 31)) else tO) tpd ((nd_) ||| (br_))) dX3_takeRule_151 rfl rfl (Nat.le_of_ble_eq_true rfl) (by decide) rfl rfl rfl (by decide) rfl (Rt.len rfl) (Rt.go ?_)
                        refine v_w (ws' := [(t0, .inr (3, [.ref b0, .int (nI tl), .int (if ntC (tkK by_ tl p) (tkV by_ tl p vs) ((nd_) ||| (br_)) = 0 then (if tkO by_ tl p = true then xf else 1) else ntC (tkK by_ tl p) (tkV by_ tl p vs) ((nd_) ||| (br_))), .int (if ntC (tkK by_ tl p) (tkV by_ tl p vs) ((nd_) ||| (br_)) = 0 then (if tkO by_ tl p = true then xp else nI (tkS by_ tl p)) else nI (tkS by_ tl p)), .ref tb, .int (nI (tkN by_ tl p)), .int ((tkK by_ tl p)), .int (nI (tkS by_ tl p)), .int ((tkV by_ tl p vs)), .int (th), .int (if numC (tkK by_ tl p) (tkV by_ tl p vs) 0 5 = 0 then nn ||| ((1 : Int32) <<< ((tkV by_ tl p vs) &&& 31)) else nn), .int ((if numC (tkK by_ tl nx) (tkV by_ tl nx tv) 0 3 = 0 then tO ||| ((1 : Int32) <<< ((tkV by_ tl nx tv) &&& 31)) else tO)), .int (tpd)])), (tb, .inl (E.2.1 0, 160, .inl (by_))), (b0, .inr (2, [.int (nI kn), .int (nI kp), .int (nI rl), .int (hm), .int (sp), .int (td), .int (dt), .ref bo, .ref bw, .ref bn, .ref bb, .ref bv])), (bo, .inl (E.2.1 1, 8, .inl (on))), (bw, .inl (E.2.1 1, 8, .inl (wr))), (bn, .inl (E.2.1 1, 8, .inl (nd))), (bb, .inl (E.2.1 1, 8, .inl (br)))]) rfl ?_
                        refine v_st (st' := [.int (if ntC (tkK by_ tl p) (tkV by_ tl p vs) ((nd_) ||| (br_)) = 0 then 1 else 0)]) rfl ?_
                        refine v_ifB_ne (pc := 154) 159 dX3_takeRule_154 (by decide) (fun c_154 => ?_) (fun c_154 => ?_)
                        · skip
                          refine v_iload (pc := 159) 1 dX3_takeRule_159 rfl ?_
                          refine v_if_eq (pc := 161) 178 dX3_takeRule_161 (by decide) (fun c_161 => ?_) (fun c_161 => ?_)
                          · skip
                            refine v_iload_n (pc := 178) 3 dX3_takeRule_178 rfl rfl ?_
                            refine v_iconst (pc := 179) (v := 1) dX3_takeRule_179 (by decide) ?_
                            refine v_aload_n (pc := 180) 6 dX3_takeRule_180 rfl rfl ?_
                            refine gf_188 (pc := 181) 0 dX3_takeRule_181 rfl rfl ?_
                            refine v_ishl (pc := 184) dX3_takeRule_184 ?_
                            refine v_ior (pc := 185) dX3_takeRule_185 ?_
                            refine v_istore_n (pc := 186) (lv' := [(3, .int ((nd_) ||| ((1 : Int32) <<< (((tkV by_ tl p vs)) &&& 31)))), (6, .int (nI i)), (5, .int (bn_)), (4, .int (br_)), (2, .int (tkV by_ tl (tkN by_ tl nx) 0)), (1, .int (tkV by_ tl nx 0)), (0, .ref t0)]) dX3_takeRule_186 rfl (by decide) rfl ?_
                            refine v_iinc (pc := 187) (v := nI (i + 1)) (lv' := [(6, .int (nI (i + 1))), (3, .int ((nd_) ||| ((1 : Int32) <<< (((tkV by_ tl p vs)) &&& 31)))), (5, .int (bn_)), (4, .int (br_)), (2, .int (tkV by_ tl (tkN by_ tl nx) 0)), (1, .int (tkV by_ tl nx 0)), (0, .ref t0)]) 1 dX3_takeRule_187 rfl (nI_inc (i) 1) (by decide) rfl ?_
                            refine v_goto (pc := 190) 76 dX3_takeRule_190 (by decide) ?_
                            refine v_lv (lv' := [(6, .int (nI (i + 1))), (5, .int (bn_)), (4, .int (br_)), (3, .int ((nd_) ||| ((1 : Int32) <<< (((tkV by_ tl p vs)) &&& 31)))), (2, .int (tkV by_ tl (tkN by_ tl nx) 0)), (1, .int (tkV by_ tl nx 0)), (0, .ref t0)]) [0, 2, 3, 1, 4, 5, 6] rfl ?_
                            refine ih_76 (i + 1) (tkN by_ tl p) (if ntC (tkK by_ tl p) (tkV by_ tl p vs) ((nd_) ||| (br_)) = 0 then (if tkO by_ tl p = true then xf else 1) else ntC (tkK by_ tl p) (tkV by_ tl p vs) ((nd_) ||| (br_))) (if ntC (tkK by_ tl p) (tkV by_ tl p vs) ((nd_) ||| (br_)) = 0 then (if tkO by_ tl p = true then xp else nI (tkS by_ tl p)) else nI (tkS by_ tl p)) (tkK by_ tl p) (tkS by_ tl p) (tkV by_ tl p vs) (if numC (tkK by_ tl p) (tkV by_ tl p vs) 0 5 = 0 then nn ||| ((1 : Int32) <<< ((tkV by_ tl p vs) &&& 31)) else nn) ((nd_) ||| ((1 : Int32) <<< (((tkV by_ tl p vs)) &&& 31))) br_ bn_ (by omega) ?_ ?_ ?_ ?_
                            · exact (tkN_b h_76_0).2
                            · rw [h_76_1, show tl + 1 - i = (tl - i) + 1 by omega]; rw [show tl + 1 - (i + 1) = tl - i by omega]; rw [if_pos (nt_ok c_154).1]; exact rl_need c_89 (fun q => c_99 q.1) (fun q => c_132 q.1) c_154 c_161
                            · rw [if_pos c_154, if_pos c_89]; exact h_76_2
                            · omega
                          · skip
                            refine v_iload (pc := 164) 2 dX3_takeRule_164 rfl ?_
                            refine v_iconst (pc := 166) (v := 1) dX3_takeRule_166 (by decide) ?_
                            refine v_aload_n (pc := 167) 6 dX3_takeRule_167 rfl rfl ?_
                            refine gf_188 (pc := 168) 0 dX3_takeRule_168 rfl rfl ?_
                            refine v_ishl (pc := 171) dX3_takeRule_171 ?_
                            refine v_ior (pc := 172) dX3_takeRule_172 ?_
                            refine v_istore (pc := 173) (lv' := [(4, .int ((br_) ||| ((1 : Int32) <<< (((tkV by_ tl p vs)) &&& 31)))), (6, .int (nI i)), (5, .int (bn_)), (3, .int (nd_)), (2, .int (tkV by_ tl (tkN by_ tl nx) 0)), (1, .int (tkV by_ tl nx 0)), (0, .ref t0)]) dX3_takeRule_173 (by decide) rfl ?_
                            refine v_goto (pc := 175) 187 dX3_takeRule_175 (by decide) ?_
                            refine v_iinc (pc := 187) (v := nI (i + 1)) (lv' := [(6, .int (nI (i + 1))), (4, .int ((br_) ||| ((1 : Int32) <<< (((tkV by_ tl p vs)) &&& 31)))), (5, .int (bn_)), (3, .int (nd_)), (2, .int (tkV by_ tl (tkN by_ tl nx) 0)), (1, .int (tkV by_ tl nx 0)), (0, .ref t0)]) 1 dX3_takeRule_187 rfl (nI_inc (i) 1) (by decide) rfl ?_
                            refine v_goto (pc := 190) 76 dX3_takeRule_190 (by decide) ?_
                            refine v_lv (lv' := [(6, .int (nI (i + 1))), (5, .int (bn_)), (4, .int ((br_) ||| ((1 : Int32) <<< (((tkV by_ tl p vs)) &&& 31)))), (3, .int (nd_)), (2, .int (tkV by_ tl (tkN by_ tl nx) 0)), (1, .int (tkV by_ tl nx 0)), (0, .ref t0)]) [0, 2, 1, 3, 4, 5, 6] rfl ?_
                            refine ih_76 (i + 1) (tkN by_ tl p) (if ntC (tkK by_ tl p) (tkV by_ tl p vs) ((nd_) ||| (br_)) = 0 then (if tkO by_ tl p = true then xf else 1) else ntC (tkK by_ tl p) (tkV by_ tl p vs) ((nd_) ||| (br_))) (if ntC (tkK by_ tl p) (tkV by_ tl p vs) ((nd_) ||| (br_)) = 0 then (if tkO by_ tl p = true then xp else nI (tkS by_ tl p)) else nI (tkS by_ tl p)) (tkK by_ tl p) (tkS by_ tl p) (tkV by_ tl p vs) (if numC (tkK by_ tl p) (tkV by_ tl p vs) 0 5 = 0 then nn ||| ((1 : Int32) <<< ((tkV by_ tl p vs) &&& 31)) else nn) nd_ ((br_) ||| ((1 : Int32) <<< (((tkV by_ tl p vs)) &&& 31))) bn_ (by omega) ?_ ?_ ?_ ?_
                            · exact (tkN_b h_76_0).2
                            · rw [h_76_1, show tl + 1 - i = (tl - i) + 1 by omega]; rw [show tl + 1 - (i + 1) = tl - i by omega]; rw [if_pos (nt_ok c_154).1]; exact rl_bar c_89 (fun q => c_99 q.1) (fun q => c_132 q.1) c_154 c_161
                            · rw [if_pos c_154, if_pos c_89]; exact h_76_2
                            · omega
                        · skip
                          refine v_iconst (pc := 157) (v := 0) dX3_takeRule_157 (by decide) ?_
                          refine v_zret (pc := 158) dX3_takeRule_158 rfl rfl ⟨rfl, rfl⟩ ⟨(if ntC (tkK by_ tl p) (tkV by_ tl p vs) ((nd_) ||| (br_)) = 0 then (if tkO by_ tl p = true then xf else 1) else ntC (tkK by_ tl p) (tkV by_ tl p vs) ((nd_) ||| (br_))), (if ntC (tkK by_ tl p) (tkV by_ tl p vs) ((nd_) ||| (br_)) = 0 then (if tkO by_ tl p = true then xp else nI (tkS by_ tl p)) else nI (tkS by_ tl p)), (tkN by_ tl p), ((tkK by_ tl p)), (tkS by_ tl p), ((tkV by_ tl p vs)), (if numC (tkK by_ tl p) (tkV by_ tl p vs) 0 5 = 0 then nn ||| ((1 : Int32) <<< ((tkV by_ tl p vs) &&& 31)) else nn), ((if numC (tkK by_ tl nx) (tkV by_ tl nx tv) 0 3 = 0 then tO ||| ((1 : Int32) <<< ((tkV by_ tl nx tv) &&& 31)) else tO)), (rl), (on), (wr), (nd), (br), ?_, rfl, ?_, ?_, ?_⟩
                          · skip
                            have hR : rlR by_ tl nx tN = ((ntC (tkK by_ tl p) (tkV by_ tl p vs) (nd_ ||| br_), tkS by_ tl p), nd_, br_, nn) := by rw [h_76_1, show tl + 1 - i = (tl - i) + 1 by omega]; exact rl_bad c_89 (fun q => c_99 q.1) (fun q => c_132 q.1) c_154
                            have hnz : ¬ ntC (tkK by_ tl p) (tkV by_ tl p vs) (nd_ ||| br_) = 0 := c_154
                            have hc : lnRule by_ tl nx sa rl tN = (ntC (tkK by_ tl p) (tkV by_ tl p vs) (nd_ ||| br_), tkS by_ tl p) := by have ht : lnRule by_ tl nx sa rl tN = ckN by_ tl nx 0 3 (ckA by_ tl (tkN by_ tl nx) 0 (rlR by_ tl nx tN).1) := if_pos c_9; rw [ht, hcA, hcB, hR]
                            rw [hc]; exact congrArg (fun z => some (Value.int z)) (if_neg hnz).symm
                          · skip
                            have hR : rlR by_ tl nx tN = ((ntC (tkK by_ tl p) (tkV by_ tl p vs) (nd_ ||| br_), tkS by_ tl p), nd_, br_, nn) := by rw [h_76_1, show tl + 1 - i = (tl - i) + 1 by omega]; exact rl_bad c_89 (fun q => c_99 q.1) (fun q => c_132 q.1) c_154
                            have hnz : ¬ ntC (tkK by_ tl p) (tkV by_ tl p vs) (nd_ ||| br_) = 0 := c_154
                            have hc : lnRule by_ tl nx sa rl tN = (ntC (tkK by_ tl p) (tkV by_ tl p vs) (nd_ ||| br_), tkS by_ tl p) := by have ht : lnRule by_ tl nx sa rl tN = ckN by_ tl nx 0 3 (ckA by_ tl (tkN by_ tl nx) 0 (rlR by_ tl nx tN).1) := if_pos c_9; rw [ht, hcA, hcB, hR]
                            rw [hc]; exact fun q => absurd q hnz
                          · skip
                            have hR : rlR by_ tl nx tN = ((ntC (tkK by_ tl p) (tkV by_ tl p vs) (nd_ ||| br_), tkS by_ tl p), nd_, br_, nn) := by rw [h_76_1, show tl + 1 - i = (tl - i) + 1 by omega]; exact rl_bad c_89 (fun q => c_99 q.1) (fun q => c_132 q.1) c_154
                            have hnz : ¬ ntC (tkK by_ tl p) (tkV by_ tl p vs) (nd_ ||| br_) = 0 := c_154
                            have hc : lnRule by_ tl nx sa rl tN = (ntC (tkK by_ tl p) (tkV by_ tl p vs) (nd_ ||| br_), tkS by_ tl p) := by have ht : lnRule by_ tl nx sa rl tN = ckN by_ tl nx 0 3 (ckA by_ tl (tkN by_ tl nx) 0 (rlR by_ tl nx tN).1) := if_pos c_9; rw [ht, hcA, hcB, hR]
                            rw [hc]; exact fun _ => ⟨if_neg c_154, if_neg c_154⟩
                          · skip
                            exact (tkN_b h_76_0).2
                      · skip
                        refine v_iload (pc := 135) 1 dX3_takeRule_135 rfl ?_
                        refine v_if_ne (pc := 137) 146 dX3_takeRule_137 (by decide) (fun c_137 => ?_) (fun c_137 => ?_)
                        · skip
                          refine v_aload_n (pc := 146) 6 dX3_takeRule_146 rfl rfl ?_
                          refine v_iload_n (pc := 147) 3 dX3_takeRule_147 rfl rfl ?_
                          refine v_iload (pc := 148) 2 dX3_takeRule_148 rfl ?_
                          refine v_ior (pc := 150) dX3_takeRule_150 ?_
                          refine v_callV (pc := 151) (rest := []) [0] 0 lk_393 (c_X3_isNoteNotIn l E t0 b0 tb tl (tkN by_ tl p) (tkS by_ tl p) (if tkO by_ tl p = true then xf else 1) (if tkO by_ tl p = true then xp else nI (tkS by_ tl p)) (tkK by_ tl p) (tkV by_ tl p vs) th nn (if numC (tkK by_ tl nx) (tkV by_ tl nx tv) 0 3 = 0 then tO ||| ((1 : Int32) <<< ((tkV by_ tl nx tv) &&& 31)) else tO) tpd ((nd_) ||| (br_))) dX3_takeRule_151 rfl rfl (Nat.le_of_ble_eq_true rfl) (by decide) rfl rfl rfl (by decide) rfl (Rt.len rfl) (Rt.go ?_)
                          refine v_w (ws' := [(t0, .inr (3, [.ref b0, .int (nI tl), .int (if ntC (tkK by_ tl p) (tkV by_ tl p vs) ((nd_) ||| (br_)) = 0 then (if tkO by_ tl p = true then xf else 1) else ntC (tkK by_ tl p) (tkV by_ tl p vs) ((nd_) ||| (br_))), .int (if ntC (tkK by_ tl p) (tkV by_ tl p vs) ((nd_) ||| (br_)) = 0 then (if tkO by_ tl p = true then xp else nI (tkS by_ tl p)) else nI (tkS by_ tl p)), .ref tb, .int (nI (tkN by_ tl p)), .int ((tkK by_ tl p)), .int (nI (tkS by_ tl p)), .int ((tkV by_ tl p vs)), .int (th), .int (if numC (tkK by_ tl p) (tkV by_ tl p vs) 0 5 = 0 then nn ||| ((1 : Int32) <<< ((tkV by_ tl p vs) &&& 31)) else nn), .int ((if numC (tkK by_ tl nx) (tkV by_ tl nx tv) 0 3 = 0 then tO ||| ((1 : Int32) <<< ((tkV by_ tl nx tv) &&& 31)) else tO)), .int (tpd)])), (tb, .inl (E.2.1 0, 160, .inl (by_))), (b0, .inr (2, [.int (nI kn), .int (nI kp), .int (nI rl), .int (hm), .int (sp), .int (td), .int (dt), .ref bo, .ref bw, .ref bn, .ref bb, .ref bv])), (bo, .inl (E.2.1 1, 8, .inl (on))), (bw, .inl (E.2.1 1, 8, .inl (wr))), (bn, .inl (E.2.1 1, 8, .inl (nd))), (bb, .inl (E.2.1 1, 8, .inl (br)))]) rfl ?_
                          refine v_st (st' := [.int (if ntC (tkK by_ tl p) (tkV by_ tl p vs) ((nd_) ||| (br_)) = 0 then 1 else 0)]) rfl ?_
                          refine v_ifB_ne (pc := 154) 159 dX3_takeRule_154 (by decide) (fun c_154 => ?_) (fun c_154 => ?_)
                          · skip
                            refine v_iload (pc := 159) 1 dX3_takeRule_159 rfl ?_
                            refine v_if_eq (pc := 161) 178 dX3_takeRule_161 (by decide) (fun c_161 => ?_) (fun c_161 => ?_)
                            · skip
                              refine v_iload_n (pc := 178) 3 dX3_takeRule_178 rfl rfl ?_
                              refine v_iconst (pc := 179) (v := 1) dX3_takeRule_179 (by decide) ?_
                              refine v_aload_n (pc := 180) 6 dX3_takeRule_180 rfl rfl ?_
                              refine gf_188 (pc := 181) 0 dX3_takeRule_181 rfl rfl ?_
                              refine v_ishl (pc := 184) dX3_takeRule_184 ?_
                              refine v_ior (pc := 185) dX3_takeRule_185 ?_
                              refine v_istore_n (pc := 186) (lv' := [(3, .int ((nd_) ||| ((1 : Int32) <<< (((tkV by_ tl p vs)) &&& 31)))), (6, .int (nI i)), (5, .int (bn_)), (4, .int (br_)), (2, .int (tkV by_ tl (tkN by_ tl nx) 0)), (1, .int (tkV by_ tl nx 0)), (0, .ref t0)]) dX3_takeRule_186 rfl (by decide) rfl ?_
                              refine v_iinc (pc := 187) (v := nI (i + 1)) (lv' := [(6, .int (nI (i + 1))), (3, .int ((nd_) ||| ((1 : Int32) <<< (((tkV by_ tl p vs)) &&& 31)))), (5, .int (bn_)), (4, .int (br_)), (2, .int (tkV by_ tl (tkN by_ tl nx) 0)), (1, .int (tkV by_ tl nx 0)), (0, .ref t0)]) 1 dX3_takeRule_187 rfl (nI_inc (i) 1) (by decide) rfl ?_
                              refine v_goto (pc := 190) 76 dX3_takeRule_190 (by decide) ?_
                              refine v_lv (lv' := [(6, .int (nI (i + 1))), (5, .int (bn_)), (4, .int (br_)), (3, .int ((nd_) ||| ((1 : Int32) <<< (((tkV by_ tl p vs)) &&& 31)))), (2, .int (tkV by_ tl (tkN by_ tl nx) 0)), (1, .int (tkV by_ tl nx 0)), (0, .ref t0)]) [0, 2, 3, 1, 4, 5, 6] rfl ?_
                              refine ih_76 (i + 1) (tkN by_ tl p) (if ntC (tkK by_ tl p) (tkV by_ tl p vs) ((nd_) ||| (br_)) = 0 then (if tkO by_ tl p = true then xf else 1) else ntC (tkK by_ tl p) (tkV by_ tl p vs) ((nd_) ||| (br_))) (if ntC (tkK by_ tl p) (tkV by_ tl p vs) ((nd_) ||| (br_)) = 0 then (if tkO by_ tl p = true then xp else nI (tkS by_ tl p)) else nI (tkS by_ tl p)) (tkK by_ tl p) (tkS by_ tl p) (tkV by_ tl p vs) (if numC (tkK by_ tl p) (tkV by_ tl p vs) 0 5 = 0 then nn ||| ((1 : Int32) <<< ((tkV by_ tl p vs) &&& 31)) else nn) ((nd_) ||| ((1 : Int32) <<< (((tkV by_ tl p vs)) &&& 31))) br_ bn_ (by omega) ?_ ?_ ?_ ?_
                              · exact (tkN_b h_76_0).2
                              · rw [h_76_1, show tl + 1 - i = (tl - i) + 1 by omega]; rw [show tl + 1 - (i + 1) = tl - i by omega]; rw [if_pos (nt_ok c_154).1]; exact rl_need c_89 (fun q => c_99 q.1) (fun q => c_137 q.2) c_154 c_161
                              · rw [if_pos c_154, if_pos c_89]; exact h_76_2
                              · omega
                            · skip
                              refine v_iload (pc := 164) 2 dX3_takeRule_164 rfl ?_
                              refine v_iconst (pc := 166) (v := 1) dX3_takeRule_166 (by decide) ?_
                              refine v_aload_n (pc := 167) 6 dX3_takeRule_167 rfl rfl ?_
                              refine gf_188 (pc := 168) 0 dX3_takeRule_168 rfl rfl ?_
                              refine v_ishl (pc := 171) dX3_takeRule_171 ?_
                              refine v_ior (pc := 172) dX3_takeRule_172 ?_
                              refine v_istore (pc := 173) (lv' := [(4, .int ((br_) ||| ((1 : Int32) <<< (((tkV by_ tl p vs)) &&& 31)))), (6, .int (nI i)), (5, .int (bn_)), (3, .int (nd_)), (2, .int (tkV by_ tl (tkN by_ tl nx) 0)), (1, .int (tkV by_ tl nx 0)), (0, .ref t0)]) dX3_takeRule_173 (by decide) rfl ?_
                              refine v_goto (pc := 175) 187 dX3_takeRule_175 (by decide) ?_
                              refine v_iinc (pc := 187) (v := nI (i + 1)) (lv' := [(6, .int (nI (i + 1))), (4, .int ((br_) ||| ((1 : Int32) <<< (((tkV by_ tl p vs)) &&& 31)))), (5, .int (bn_)), (3, .int (nd_)), (2, .int (tkV by_ tl (tkN by_ tl nx) 0)), (1, .int (tkV by_ tl nx 0)), (0, .ref t0)]) 1 dX3_takeRule_187 rfl (nI_inc (i) 1) (by decide) rfl ?_
                              refine v_goto (pc := 190) 76 dX3_takeRule_190 (by decide) ?_
                              refine v_lv (lv' := [(6, .int (nI (i + 1))), (5, .int (bn_)), (4, .int ((br_) ||| ((1 : Int32) <<< (((tkV by_ tl p vs)) &&& 31)))), (3, .int (nd_)), (2, .int (tkV by_ tl (tkN by_ tl nx) 0)), (1, .int (tkV by_ tl nx 0)), (0, .ref t0)]) [0, 2, 1, 3, 4, 5, 6] rfl ?_
                              refine ih_76 (i + 1) (tkN by_ tl p) (if ntC (tkK by_ tl p) (tkV by_ tl p vs) ((nd_) ||| (br_)) = 0 then (if tkO by_ tl p = true then xf else 1) else ntC (tkK by_ tl p) (tkV by_ tl p vs) ((nd_) ||| (br_))) (if ntC (tkK by_ tl p) (tkV by_ tl p vs) ((nd_) ||| (br_)) = 0 then (if tkO by_ tl p = true then xp else nI (tkS by_ tl p)) else nI (tkS by_ tl p)) (tkK by_ tl p) (tkS by_ tl p) (tkV by_ tl p vs) (if numC (tkK by_ tl p) (tkV by_ tl p vs) 0 5 = 0 then nn ||| ((1 : Int32) <<< ((tkV by_ tl p vs) &&& 31)) else nn) nd_ ((br_) ||| ((1 : Int32) <<< (((tkV by_ tl p vs)) &&& 31))) bn_ (by omega) ?_ ?_ ?_ ?_
                              · exact (tkN_b h_76_0).2
                              · rw [h_76_1, show tl + 1 - i = (tl - i) + 1 by omega]; rw [show tl + 1 - (i + 1) = tl - i by omega]; rw [if_pos (nt_ok c_154).1]; exact rl_bar c_89 (fun q => c_99 q.1) (fun q => c_137 q.2) c_154 c_161
                              · rw [if_pos c_154, if_pos c_89]; exact h_76_2
                              · omega
                          · skip
                            refine v_iconst (pc := 157) (v := 0) dX3_takeRule_157 (by decide) ?_
                            refine v_zret (pc := 158) dX3_takeRule_158 rfl rfl ⟨rfl, rfl⟩ ⟨(if ntC (tkK by_ tl p) (tkV by_ tl p vs) ((nd_) ||| (br_)) = 0 then (if tkO by_ tl p = true then xf else 1) else ntC (tkK by_ tl p) (tkV by_ tl p vs) ((nd_) ||| (br_))), (if ntC (tkK by_ tl p) (tkV by_ tl p vs) ((nd_) ||| (br_)) = 0 then (if tkO by_ tl p = true then xp else nI (tkS by_ tl p)) else nI (tkS by_ tl p)), (tkN by_ tl p), ((tkK by_ tl p)), (tkS by_ tl p), ((tkV by_ tl p vs)), (if numC (tkK by_ tl p) (tkV by_ tl p vs) 0 5 = 0 then nn ||| ((1 : Int32) <<< ((tkV by_ tl p vs) &&& 31)) else nn), ((if numC (tkK by_ tl nx) (tkV by_ tl nx tv) 0 3 = 0 then tO ||| ((1 : Int32) <<< ((tkV by_ tl nx tv) &&& 31)) else tO)), (rl), (on), (wr), (nd), (br), ?_, rfl, ?_, ?_, ?_⟩
                            · skip
                              have hR : rlR by_ tl nx tN = ((ntC (tkK by_ tl p) (tkV by_ tl p vs) (nd_ ||| br_), tkS by_ tl p), nd_, br_, nn) := by rw [h_76_1, show tl + 1 - i = (tl - i) + 1 by omega]; exact rl_bad c_89 (fun q => c_99 q.1) (fun q => c_137 q.2) c_154
                              have hnz : ¬ ntC (tkK by_ tl p) (tkV by_ tl p vs) (nd_ ||| br_) = 0 := c_154
                              have hc : lnRule by_ tl nx sa rl tN = (ntC (tkK by_ tl p) (tkV by_ tl p vs) (nd_ ||| br_), tkS by_ tl p) := by have ht : lnRule by_ tl nx sa rl tN = ckN by_ tl nx 0 3 (ckA by_ tl (tkN by_ tl nx) 0 (rlR by_ tl nx tN).1) := if_pos c_9; rw [ht, hcA, hcB, hR]
                              rw [hc]; exact congrArg (fun z => some (Value.int z)) (if_neg hnz).symm
                            · skip
                              have hR : rlR by_ tl nx tN = ((ntC (tkK by_ tl p) (tkV by_ tl p vs) (nd_ ||| br_), tkS by_ tl p), nd_, br_, nn) := by rw [h_76_1, show tl + 1 - i = (tl - i) + 1 by omega]; exact rl_bad c_89 (fun q => c_99 q.1) (fun q => c_137 q.2) c_154
                              have hnz : ¬ ntC (tkK by_ tl p) (tkV by_ tl p vs) (nd_ ||| br_) = 0 := c_154
                              have hc : lnRule by_ tl nx sa rl tN = (ntC (tkK by_ tl p) (tkV by_ tl p vs) (nd_ ||| br_), tkS by_ tl p) := by have ht : lnRule by_ tl nx sa rl tN = ckN by_ tl nx 0 3 (ckA by_ tl (tkN by_ tl nx) 0 (rlR by_ tl nx tN).1) := if_pos c_9; rw [ht, hcA, hcB, hR]
                              rw [hc]; exact fun q => absurd q hnz
                            · skip
                              have hR : rlR by_ tl nx tN = ((ntC (tkK by_ tl p) (tkV by_ tl p vs) (nd_ ||| br_), tkS by_ tl p), nd_, br_, nn) := by rw [h_76_1, show tl + 1 - i = (tl - i) + 1 by omega]; exact rl_bad c_89 (fun q => c_99 q.1) (fun q => c_137 q.2) c_154
                              have hnz : ¬ ntC (tkK by_ tl p) (tkV by_ tl p vs) (nd_ ||| br_) = 0 := c_154
                              have hc : lnRule by_ tl nx sa rl tN = (ntC (tkK by_ tl p) (tkV by_ tl p vs) (nd_ ||| br_), tkS by_ tl p) := by have ht : lnRule by_ tl nx sa rl tN = ckN by_ tl nx 0 3 (ckA by_ tl (tkN by_ tl nx) 0 (rlR by_ tl nx tN).1) := if_pos c_9; rw [ht, hcA, hcB, hR]
                              rw [hc]; exact fun _ => ⟨if_neg c_154, if_neg c_154⟩
                            · skip
                              exact (tkN_b h_76_0).2
                        · skip
                          refine v_iconst (pc := 140) (v := 1) dX3_takeRule_140 (by decide) ?_
                          refine v_istore (pc := 141) (lv' := [(5, .int (1)), (6, .int (nI i)), (4, .int (br_)), (3, .int (nd_)), (2, .int (tkV by_ tl (tkN by_ tl nx) 0)), (1, .int (tkV by_ tl nx 0)), (0, .ref t0)]) dX3_takeRule_141 (by decide) rfl ?_
                          refine v_goto (pc := 143) 187 dX3_takeRule_143 (by decide) ?_
                          refine v_iinc (pc := 187) (v := nI (i + 1)) (lv' := [(6, .int (nI (i + 1))), (5, .int (1)), (4, .int (br_)), (3, .int (nd_)), (2, .int (tkV by_ tl (tkN by_ tl nx) 0)), (1, .int (tkV by_ tl nx 0)), (0, .ref t0)]) 1 dX3_takeRule_187 rfl (nI_inc (i) 1) (by decide) rfl ?_
                          refine v_goto (pc := 190) 76 dX3_takeRule_190 (by decide) ?_
                          refine v_lv (lv' := [(6, .int (nI (i + 1))), (5, .int (1)), (4, .int (br_)), (3, .int (nd_)), (2, .int (tkV by_ tl (tkN by_ tl nx) 0)), (1, .int (tkV by_ tl nx 0)), (0, .ref t0)]) [0, 1, 2, 3, 4, 5, 6] rfl ?_
                          refine ih_76 (i + 1) (tkN by_ tl p) (if tkO by_ tl p = true then xf else 1) (if tkO by_ tl p = true then xp else nI (tkS by_ tl p)) (tkK by_ tl p) (tkS by_ tl p) (tkV by_ tl p vs) nn nd_ br_ 1 (by omega) ?_ ?_ ?_ ?_
                          · exact (tkN_b h_76_0).2
                          · rw [h_76_1, show tl + 1 - i = (tl - i) + 1 by omega]; rw [show tl + 1 - (i + 1) = tl - i by omega]; exact rl_not c_89 (fun q => c_99 q.1) ⟨c_132, c_137⟩
                          · exact (if_pos c_89).trans h_76_2
                          · omega
                    · skip
                      refine v_iload (pc := 102) 1 dX3_takeRule_102 rfl ?_
                      refine v_if_eq (pc := 104) 112 dX3_takeRule_104 (by decide) (fun c_104 => ?_) (fun c_104 => ?_)
                      · skip
                        refine v_aload_n (pc := 112) 6 dX3_takeRule_112 rfl rfl ?_
                        refine gf_176 (pc := 113) 0 dX3_takeRule_113 rfl rfl ?_
                        refine v_iload_n (pc := 116) 5 dX3_takeRule_116 rfl rfl ?_
                        refine v_iload_n (pc := 117) 4 dX3_takeRule_117 rfl rfl ?_
                        refine v_iload_n (pc := 118) 3 dX3_takeRule_118 rfl rfl ?_
                        refine v_iload (pc := 119) 2 dX3_takeRule_119 rfl ?_
                        refine v_callV (pc := 121) (rest := []) [2, 3, 4, 5, 6] 2 lk_400 (c_X2_addRule l E b0 bo bw bn bb bv kn kp rl hm sp td dt on wr nd br (tkV by_ tl nx 0) (tkV by_ tl (tkN by_ tl nx) 0) nd_ br_ (by assumption)) dX3_takeRule_121 rfl rfl (Nat.le_of_ble_eq_true rfl) (by decide) rfl rfl rfl (by decide) rfl (Rt.len rfl) (Rt.go ?_)
                        refine v_w (ws' := [(t0, .inr (3, [.ref b0, .int (nI tl), .int (if tkO by_ tl p = true then xf else 1), .int (if tkO by_ tl p = true then xp else nI (tkS by_ tl p)), .ref tb, .int (nI (tkN by_ tl p)), .int (tkK by_ tl p), .int (nI (tkS by_ tl p)), .int (tkV by_ tl p vs), .int (th), .int (nn), .int ((if numC (tkK by_ tl nx) (tkV by_ tl nx tv) 0 3 = 0 then tO ||| ((1 : Int32) <<< ((tkV by_ tl nx tv) &&& 31)) else tO)), .int (tpd)])), (tb, .inl (E.2.1 0, 160, .inl (by_))), (b0, .inr (2, [.int (nI kn), .int (nI kp), .int (nI (rl + 1)), .int (hm), .int (sp), .int (td), .int (dt), .ref bo, .ref bw, .ref bn, .ref bb, .ref bv])), (bo, .inl (E.2.1 1, 8, .inl (upd on rl (tkV by_ tl nx 0)))), (bw, .inl (E.2.1 1, 8, .inl (upd wr rl (tkV by_ tl (tkN by_ tl nx) 0)))), (bn, .inl (E.2.1 1, 8, .inl (upd nd rl nd_))), (bb, .inl (E.2.1 1, 8, .inl (upd br rl br_)))]) rfl ?_
                        refine v_st (st' := []) rfl ?_
                        refine v_iconst (pc := 124) (v := 1) dX3_takeRule_124 (by decide) ?_
                        refine v_zret (pc := 125) dX3_takeRule_125 rfl rfl ⟨rfl, rfl⟩ ⟨(if tkO by_ tl p = true then xf else 1), (if tkO by_ tl p = true then xp else nI (tkS by_ tl p)), (tkN by_ tl p), (tkK by_ tl p), (tkS by_ tl p), (tkV by_ tl p vs), (nn), ((if numC (tkK by_ tl nx) (tkV by_ tl nx tv) 0 3 = 0 then tO ||| ((1 : Int32) <<< ((tkV by_ tl nx tv) &&& 31)) else tO)), (rl + 1), (upd on rl (tkV by_ tl nx 0)), (upd wr rl (tkV by_ tl (tkN by_ tl nx) 0)), (upd nd rl nd_), (upd br rl br_), ?_, rfl, ?_, ?_, ?_⟩
                        · skip
                          have hR : rlR by_ tl nx tN = ((0, tkN by_ tl p), nd_, br_, nn) := by rw [h_76_1, show tl + 1 - i = (tl - i) + 1 by omega]; exact rl_close c_89 ⟨c_99, (Or.inl c_104)⟩
                          have hc : lnRule by_ tl nx sa rl tN = (0, tkN by_ tl p) := by have ht : lnRule by_ tl nx sa rl tN = ckN by_ tl nx 0 3 (ckA by_ tl (tkN by_ tl nx) 0 (rlR by_ tl nx tN).1) := if_pos c_9; rw [ht, hcA, hcB, hR]
                          rw [hc]; rfl
                        · skip
                          have hR : rlR by_ tl nx tN = ((0, tkN by_ tl p), nd_, br_, nn) := by rw [h_76_1, show tl + 1 - i = (tl - i) + 1 by omega]; exact rl_close c_89 ⟨c_99, (Or.inl c_104)⟩
                          have hc : lnRule by_ tl nx sa rl tN = (0, tkN by_ tl p) := by have ht : lnRule by_ tl nx sa rl tN = ckN by_ tl nx 0 3 (ckA by_ tl (tkN by_ tl nx) 0 (rlR by_ tl nx tN).1) := if_pos c_9; rw [ht, hcA, hcB, hR]
                          rw [hc]; exact fun _ => ⟨(if_pos c_89).trans h_76_2, rfl, rfl, rfl, rfl, by rw [hR], by rw [hR], by rw [hR], by rw [if_pos c_33, hvA]⟩
                        · skip
                          have hR : rlR by_ tl nx tN = ((0, tkN by_ tl p), nd_, br_, nn) := by rw [h_76_1, show tl + 1 - i = (tl - i) + 1 by omega]; exact rl_close c_89 ⟨c_99, (Or.inl c_104)⟩
                          have hc : lnRule by_ tl nx sa rl tN = (0, tkN by_ tl p) := by have ht : lnRule by_ tl nx sa rl tN = ckN by_ tl nx 0 3 (ckA by_ tl (tkN by_ tl nx) 0 (rlR by_ tl nx tN).1) := if_pos c_9; rw [ht, hcA, hcB, hR]
                          rw [hc]; exact fun q => absurd rfl q
                        · skip
                          exact (tkN_b h_76_0).2
                      · skip
                        refine v_iload (pc := 107) 2 dX3_takeRule_107 rfl ?_
                        refine v_if_eq (pc := 109) 126 dX3_takeRule_109 (by decide) (fun c_109 => ?_) (fun c_109 => ?_)
                        · skip
                          refine v_aload_n (pc := 126) 6 dX3_takeRule_126 rfl rfl ?_
                          refine v_ldcS (pc := 127) 2 (by decide) rfl rfl dX3_takeRule_127 ?_
                          refine v_callV (pc := 129) (rest := []) [0, 1] 0 lk_320 (c_X3_isName l E t0 b0 tb tl (tkN by_ tl p) (tkS by_ tl p) (if tkO by_ tl p = true then xf else 1) (if tkO by_ tl p = true then xp else nI (tkS by_ tl p)) (tkK by_ tl p) (tkV by_ tl p vs) th nn (if numC (tkK by_ tl nx) (tkV by_ tl nx tv) 0 3 = 0 then tO ||| ((1 : Int32) <<< ((tkV by_ tl nx tv) &&& 31)) else tO) tpd by_ 2 (by decide) (tkN_b h_76_0).1 (tkN_b h_76_0).2 h_tl) dX3_takeRule_129 rfl rfl (Nat.le_of_ble_eq_true rfl) (by decide) rfl rfl rfl (by decide) rfl (Rt.len rfl) (Rt.go ?_)
                          refine v_w (ws' := [(t0, .inr (3, [.ref b0, .int (nI tl), .int ((if tkO by_ tl p = true then xf else 1)), .int ((if tkO by_ tl p = true then xp else nI (tkS by_ tl p))), .ref tb, .int (nI (tkN by_ tl p)), .int ((tkK by_ tl p)), .int (nI (tkS by_ tl p)), .int ((tkV by_ tl p vs)), .int (th), .int (nn), .int ((if numC (tkK by_ tl nx) (tkV by_ tl nx tv) 0 3 = 0 then tO ||| ((1 : Int32) <<< ((tkV by_ tl nx tv) &&& 31)) else tO)), .int (tpd)])), (tb, .inl (E.2.1 0, 160, .inl (by_))), (b0, .inr (2, [.int (nI kn), .int (nI kp), .int (nI rl), .int (hm), .int (sp), .int (td), .int (dt), .ref bo, .ref bw, .ref bn, .ref bb, .ref bv])), (bo, .inl (E.2.1 1, 8, .inl (on))), (bw, .inl (E.2.1 1, 8, .inl (wr))), (bn, .inl (E.2.1 1, 8, .inl (nd))), (bb, .inl (E.2.1 1, 8, .inl (br)))]) rfl ?_
                          refine v_st (st' := [.int (if nmB (tkK by_ tl p) by_ (tkS by_ tl p) (tkN by_ tl p) 2 = true then 1 else 0)]) rfl ?_
                          refine v_ifB_eq (pc := 132) 146 dX3_takeRule_132 (by decide) (fun c_132 => ?_) (fun c_132 => ?_)
                          · skip
                            refine v_aload_n (pc := 146) 6 dX3_takeRule_146 rfl rfl ?_
                            refine v_iload_n (pc := 147) 3 dX3_takeRule_147 rfl rfl ?_
                            refine v_iload (pc := 148) 2 dX3_takeRule_148 rfl ?_
                            refine v_ior (pc := 150) dX3_takeRule_150 ?_
                            refine v_callV (pc := 151) (rest := []) [0] 0 lk_393 (c_X3_isNoteNotIn l E t0 b0 tb tl (tkN by_ tl p) (tkS by_ tl p) (if tkO by_ tl p = true then xf else 1) (if tkO by_ tl p = true then xp else nI (tkS by_ tl p)) (tkK by_ tl p) (tkV by_ tl p vs) th nn (if numC (tkK by_ tl nx) (tkV by_ tl nx tv) 0 3 = 0 then tO ||| ((1 : Int32) <<< ((tkV by_ tl nx tv) &&& 31)) else tO) tpd ((nd_) ||| (br_))) dX3_takeRule_151 rfl rfl (Nat.le_of_ble_eq_true rfl) (by decide) rfl rfl rfl (by decide) rfl (Rt.len rfl) (Rt.go ?_)
                            refine v_w (ws' := [(t0, .inr (3, [.ref b0, .int (nI tl), .int (if ntC (tkK by_ tl p) (tkV by_ tl p vs) ((nd_) ||| (br_)) = 0 then (if tkO by_ tl p = true then xf else 1) else ntC (tkK by_ tl p) (tkV by_ tl p vs) ((nd_) ||| (br_))), .int (if ntC (tkK by_ tl p) (tkV by_ tl p vs) ((nd_) ||| (br_)) = 0 then (if tkO by_ tl p = true then xp else nI (tkS by_ tl p)) else nI (tkS by_ tl p)), .ref tb, .int (nI (tkN by_ tl p)), .int ((tkK by_ tl p)), .int (nI (tkS by_ tl p)), .int ((tkV by_ tl p vs)), .int (th), .int (if numC (tkK by_ tl p) (tkV by_ tl p vs) 0 5 = 0 then nn ||| ((1 : Int32) <<< ((tkV by_ tl p vs) &&& 31)) else nn), .int ((if numC (tkK by_ tl nx) (tkV by_ tl nx tv) 0 3 = 0 then tO ||| ((1 : Int32) <<< ((tkV by_ tl nx tv) &&& 31)) else tO)), .int (tpd)])), (tb, .inl (E.2.1 0, 160, .inl (by_))), (b0, .inr (2, [.int (nI kn), .int (nI kp), .int (nI rl), .int (hm), .int (sp), .int (td), .int (dt), .ref bo, .ref bw, .ref bn, .ref bb, .ref bv])), (bo, .inl (E.2.1 1, 8, .inl (on))), (bw, .inl (E.2.1 1, 8, .inl (wr))), (bn, .inl (E.2.1 1, 8, .inl (nd))), (bb, .inl (E.2.1 1, 8, .inl (br)))]) rfl ?_
                            refine v_st (st' := [.int (if ntC (tkK by_ tl p) (tkV by_ tl p vs) ((nd_) ||| (br_)) = 0 then 1 else 0)]) rfl ?_
                            refine v_ifB_ne (pc := 154) 159 dX3_takeRule_154 (by decide) (fun c_154 => ?_) (fun c_154 => ?_)
                            · skip
                              refine v_iload (pc := 159) 1 dX3_takeRule_159 rfl ?_
                              refine v_if_eq (pc := 161) 178 dX3_takeRule_161 (by decide) (fun c_161 => ?_) (fun c_161 => ?_)
                              · skip
                                refine v_iload_n (pc := 178) 3 dX3_takeRule_178 rfl rfl ?_
                                refine v_iconst (pc := 179) (v := 1) dX3_takeRule_179 (by decide) ?_
                                refine v_aload_n (pc := 180) 6 dX3_takeRule_180 rfl rfl ?_
                                refine gf_188 (pc := 181) 0 dX3_takeRule_181 rfl rfl ?_
                                refine v_ishl (pc := 184) dX3_takeRule_184 ?_
                                refine v_ior (pc := 185) dX3_takeRule_185 ?_
                                refine v_istore_n (pc := 186) (lv' := [(3, .int ((nd_) ||| ((1 : Int32) <<< (((tkV by_ tl p vs)) &&& 31)))), (6, .int (nI i)), (5, .int (bn_)), (4, .int (br_)), (2, .int (tkV by_ tl (tkN by_ tl nx) 0)), (1, .int (tkV by_ tl nx 0)), (0, .ref t0)]) dX3_takeRule_186 rfl (by decide) rfl ?_
                                refine v_iinc (pc := 187) (v := nI (i + 1)) (lv' := [(6, .int (nI (i + 1))), (3, .int ((nd_) ||| ((1 : Int32) <<< (((tkV by_ tl p vs)) &&& 31)))), (5, .int (bn_)), (4, .int (br_)), (2, .int (tkV by_ tl (tkN by_ tl nx) 0)), (1, .int (tkV by_ tl nx 0)), (0, .ref t0)]) 1 dX3_takeRule_187 rfl (nI_inc (i) 1) (by decide) rfl ?_
                                refine v_goto (pc := 190) 76 dX3_takeRule_190 (by decide) ?_
                                refine v_lv (lv' := [(6, .int (nI (i + 1))), (5, .int (bn_)), (4, .int (br_)), (3, .int ((nd_) ||| ((1 : Int32) <<< (((tkV by_ tl p vs)) &&& 31)))), (2, .int (tkV by_ tl (tkN by_ tl nx) 0)), (1, .int (tkV by_ tl nx 0)), (0, .ref t0)]) [0, 2, 3, 1, 4, 5, 6] rfl ?_
                                refine ih_76 (i + 1) (tkN by_ tl p) (if ntC (tkK by_ tl p) (tkV by_ tl p vs) ((nd_) ||| (br_)) = 0 then (if tkO by_ tl p = true then xf else 1) else ntC (tkK by_ tl p) (tkV by_ tl p vs) ((nd_) ||| (br_))) (if ntC (tkK by_ tl p) (tkV by_ tl p vs) ((nd_) ||| (br_)) = 0 then (if tkO by_ tl p = true then xp else nI (tkS by_ tl p)) else nI (tkS by_ tl p)) (tkK by_ tl p) (tkS by_ tl p) (tkV by_ tl p vs) (if numC (tkK by_ tl p) (tkV by_ tl p vs) 0 5 = 0 then nn ||| ((1 : Int32) <<< ((tkV by_ tl p vs) &&& 31)) else nn) ((nd_) ||| ((1 : Int32) <<< (((tkV by_ tl p vs)) &&& 31))) br_ bn_ (by omega) ?_ ?_ ?_ ?_
                                · exact (tkN_b h_76_0).2
                                · rw [h_76_1, show tl + 1 - i = (tl - i) + 1 by omega]; rw [show tl + 1 - (i + 1) = tl - i by omega]; rw [if_pos (nt_ok c_154).1]; exact rl_need c_89 (fun q => q.2.elim c_104 (fun z => z c_109)) (fun q => c_132 q.1) c_154 c_161
                                · rw [if_pos c_154, if_pos c_89]; exact h_76_2
                                · omega
                              · skip
                                refine v_iload (pc := 164) 2 dX3_takeRule_164 rfl ?_
                                refine v_iconst (pc := 166) (v := 1) dX3_takeRule_166 (by decide) ?_
                                refine v_aload_n (pc := 167) 6 dX3_takeRule_167 rfl rfl ?_
                                refine gf_188 (pc := 168) 0 dX3_takeRule_168 rfl rfl ?_
                                refine v_ishl (pc := 171) dX3_takeRule_171 ?_
                                refine v_ior (pc := 172) dX3_takeRule_172 ?_
                                refine v_istore (pc := 173) (lv' := [(4, .int ((br_) ||| ((1 : Int32) <<< (((tkV by_ tl p vs)) &&& 31)))), (6, .int (nI i)), (5, .int (bn_)), (3, .int (nd_)), (2, .int (tkV by_ tl (tkN by_ tl nx) 0)), (1, .int (tkV by_ tl nx 0)), (0, .ref t0)]) dX3_takeRule_173 (by decide) rfl ?_
                                refine v_goto (pc := 175) 187 dX3_takeRule_175 (by decide) ?_
                                refine v_iinc (pc := 187) (v := nI (i + 1)) (lv' := [(6, .int (nI (i + 1))), (4, .int ((br_) ||| ((1 : Int32) <<< (((tkV by_ tl p vs)) &&& 31)))), (5, .int (bn_)), (3, .int (nd_)), (2, .int (tkV by_ tl (tkN by_ tl nx) 0)), (1, .int (tkV by_ tl nx 0)), (0, .ref t0)]) 1 dX3_takeRule_187 rfl (nI_inc (i) 1) (by decide) rfl ?_
                                refine v_goto (pc := 190) 76 dX3_takeRule_190 (by decide) ?_
                                refine v_lv (lv' := [(6, .int (nI (i + 1))), (5, .int (bn_)), (4, .int ((br_) ||| ((1 : Int32) <<< (((tkV by_ tl p vs)) &&& 31)))), (3, .int (nd_)), (2, .int (tkV by_ tl (tkN by_ tl nx) 0)), (1, .int (tkV by_ tl nx 0)), (0, .ref t0)]) [0, 2, 1, 3, 4, 5, 6] rfl ?_
                                refine ih_76 (i + 1) (tkN by_ tl p) (if ntC (tkK by_ tl p) (tkV by_ tl p vs) ((nd_) ||| (br_)) = 0 then (if tkO by_ tl p = true then xf else 1) else ntC (tkK by_ tl p) (tkV by_ tl p vs) ((nd_) ||| (br_))) (if ntC (tkK by_ tl p) (tkV by_ tl p vs) ((nd_) ||| (br_)) = 0 then (if tkO by_ tl p = true then xp else nI (tkS by_ tl p)) else nI (tkS by_ tl p)) (tkK by_ tl p) (tkS by_ tl p) (tkV by_ tl p vs) (if numC (tkK by_ tl p) (tkV by_ tl p vs) 0 5 = 0 then nn ||| ((1 : Int32) <<< ((tkV by_ tl p vs) &&& 31)) else nn) nd_ ((br_) ||| ((1 : Int32) <<< (((tkV by_ tl p vs)) &&& 31))) bn_ (by omega) ?_ ?_ ?_ ?_
                                · exact (tkN_b h_76_0).2
                                · rw [h_76_1, show tl + 1 - i = (tl - i) + 1 by omega]; rw [show tl + 1 - (i + 1) = tl - i by omega]; rw [if_pos (nt_ok c_154).1]; exact rl_bar c_89 (fun q => q.2.elim c_104 (fun z => z c_109)) (fun q => c_132 q.1) c_154 c_161
                                · rw [if_pos c_154, if_pos c_89]; exact h_76_2
                                · omega
                            · skip
                              refine v_iconst (pc := 157) (v := 0) dX3_takeRule_157 (by decide) ?_
                              refine v_zret (pc := 158) dX3_takeRule_158 rfl rfl ⟨rfl, rfl⟩ ⟨(if ntC (tkK by_ tl p) (tkV by_ tl p vs) ((nd_) ||| (br_)) = 0 then (if tkO by_ tl p = true then xf else 1) else ntC (tkK by_ tl p) (tkV by_ tl p vs) ((nd_) ||| (br_))), (if ntC (tkK by_ tl p) (tkV by_ tl p vs) ((nd_) ||| (br_)) = 0 then (if tkO by_ tl p = true then xp else nI (tkS by_ tl p)) else nI (tkS by_ tl p)), (tkN by_ tl p), ((tkK by_ tl p)), (tkS by_ tl p), ((tkV by_ tl p vs)), (if numC (tkK by_ tl p) (tkV by_ tl p vs) 0 5 = 0 then nn ||| ((1 : Int32) <<< ((tkV by_ tl p vs) &&& 31)) else nn), ((if numC (tkK by_ tl nx) (tkV by_ tl nx tv) 0 3 = 0 then tO ||| ((1 : Int32) <<< ((tkV by_ tl nx tv) &&& 31)) else tO)), (rl), (on), (wr), (nd), (br), ?_, rfl, ?_, ?_, ?_⟩
                              · skip
                                have hR : rlR by_ tl nx tN = ((ntC (tkK by_ tl p) (tkV by_ tl p vs) (nd_ ||| br_), tkS by_ tl p), nd_, br_, nn) := by rw [h_76_1, show tl + 1 - i = (tl - i) + 1 by omega]; exact rl_bad c_89 (fun q => q.2.elim c_104 (fun z => z c_109)) (fun q => c_132 q.1) c_154
                                have hnz : ¬ ntC (tkK by_ tl p) (tkV by_ tl p vs) (nd_ ||| br_) = 0 := c_154
                                have hc : lnRule by_ tl nx sa rl tN = (ntC (tkK by_ tl p) (tkV by_ tl p vs) (nd_ ||| br_), tkS by_ tl p) := by have ht : lnRule by_ tl nx sa rl tN = ckN by_ tl nx 0 3 (ckA by_ tl (tkN by_ tl nx) 0 (rlR by_ tl nx tN).1) := if_pos c_9; rw [ht, hcA, hcB, hR]
                                rw [hc]; exact congrArg (fun z => some (Value.int z)) (if_neg hnz).symm
                              · skip
                                have hR : rlR by_ tl nx tN = ((ntC (tkK by_ tl p) (tkV by_ tl p vs) (nd_ ||| br_), tkS by_ tl p), nd_, br_, nn) := by rw [h_76_1, show tl + 1 - i = (tl - i) + 1 by omega]; exact rl_bad c_89 (fun q => q.2.elim c_104 (fun z => z c_109)) (fun q => c_132 q.1) c_154
                                have hnz : ¬ ntC (tkK by_ tl p) (tkV by_ tl p vs) (nd_ ||| br_) = 0 := c_154
                                have hc : lnRule by_ tl nx sa rl tN = (ntC (tkK by_ tl p) (tkV by_ tl p vs) (nd_ ||| br_), tkS by_ tl p) := by have ht : lnRule by_ tl nx sa rl tN = ckN by_ tl nx 0 3 (ckA by_ tl (tkN by_ tl nx) 0 (rlR by_ tl nx tN).1) := if_pos c_9; rw [ht, hcA, hcB, hR]
                                rw [hc]; exact fun q => absurd q hnz
                              · skip
                                have hR : rlR by_ tl nx tN = ((ntC (tkK by_ tl p) (tkV by_ tl p vs) (nd_ ||| br_), tkS by_ tl p), nd_, br_, nn) := by rw [h_76_1, show tl + 1 - i = (tl - i) + 1 by omega]; exact rl_bad c_89 (fun q => q.2.elim c_104 (fun z => z c_109)) (fun q => c_132 q.1) c_154
                                have hnz : ¬ ntC (tkK by_ tl p) (tkV by_ tl p vs) (nd_ ||| br_) = 0 := c_154
                                have hc : lnRule by_ tl nx sa rl tN = (ntC (tkK by_ tl p) (tkV by_ tl p vs) (nd_ ||| br_), tkS by_ tl p) := by have ht : lnRule by_ tl nx sa rl tN = ckN by_ tl nx 0 3 (ckA by_ tl (tkN by_ tl nx) 0 (rlR by_ tl nx tN).1) := if_pos c_9; rw [ht, hcA, hcB, hR]
                                rw [hc]; exact fun _ => ⟨if_neg c_154, if_neg c_154⟩
                              · skip
                                exact (tkN_b h_76_0).2
                          · skip
                            refine v_iload (pc := 135) 1 dX3_takeRule_135 rfl ?_
                            refine v_if_ne (pc := 137) 146 dX3_takeRule_137 (by decide) (fun c_137 => ?_) (fun c_137 => ?_)
                            · skip
                              refine v_aload_n (pc := 146) 6 dX3_takeRule_146 rfl rfl ?_
                              refine v_iload_n (pc := 147) 3 dX3_takeRule_147 rfl rfl ?_
                              refine v_iload (pc := 148) 2 dX3_takeRule_148 rfl ?_
                              refine v_ior (pc := 150) dX3_takeRule_150 ?_
                              refine v_callV (pc := 151) (rest := []) [0] 0 lk_393 (c_X3_isNoteNotIn l E t0 b0 tb tl (tkN by_ tl p) (tkS by_ tl p) (if tkO by_ tl p = true then xf else 1) (if tkO by_ tl p = true then xp else nI (tkS by_ tl p)) (tkK by_ tl p) (tkV by_ tl p vs) th nn (if numC (tkK by_ tl nx) (tkV by_ tl nx tv) 0 3 = 0 then tO ||| ((1 : Int32) <<< ((tkV by_ tl nx tv) &&& 31)) else tO) tpd ((nd_) ||| (br_))) dX3_takeRule_151 rfl rfl (Nat.le_of_ble_eq_true rfl) (by decide) rfl rfl rfl (by decide) rfl (Rt.len rfl) (Rt.go ?_)
                              refine v_w (ws' := [(t0, .inr (3, [.ref b0, .int (nI tl), .int (if ntC (tkK by_ tl p) (tkV by_ tl p vs) ((nd_) ||| (br_)) = 0 then (if tkO by_ tl p = true then xf else 1) else ntC (tkK by_ tl p) (tkV by_ tl p vs) ((nd_) ||| (br_))), .int (if ntC (tkK by_ tl p) (tkV by_ tl p vs) ((nd_) ||| (br_)) = 0 then (if tkO by_ tl p = true then xp else nI (tkS by_ tl p)) else nI (tkS by_ tl p)), .ref tb, .int (nI (tkN by_ tl p)), .int ((tkK by_ tl p)), .int (nI (tkS by_ tl p)), .int ((tkV by_ tl p vs)), .int (th), .int (if numC (tkK by_ tl p) (tkV by_ tl p vs) 0 5 = 0 then nn ||| ((1 : Int32) <<< ((tkV by_ tl p vs) &&& 31)) else nn), .int ((if numC (tkK by_ tl nx) (tkV by_ tl nx tv) 0 3 = 0 then tO ||| ((1 : Int32) <<< ((tkV by_ tl nx tv) &&& 31)) else tO)), .int (tpd)])), (tb, .inl (E.2.1 0, 160, .inl (by_))), (b0, .inr (2, [.int (nI kn), .int (nI kp), .int (nI rl), .int (hm), .int (sp), .int (td), .int (dt), .ref bo, .ref bw, .ref bn, .ref bb, .ref bv])), (bo, .inl (E.2.1 1, 8, .inl (on))), (bw, .inl (E.2.1 1, 8, .inl (wr))), (bn, .inl (E.2.1 1, 8, .inl (nd))), (bb, .inl (E.2.1 1, 8, .inl (br)))]) rfl ?_
                              refine v_st (st' := [.int (if ntC (tkK by_ tl p) (tkV by_ tl p vs) ((nd_) ||| (br_)) = 0 then 1 else 0)]) rfl ?_
                              refine v_ifB_ne (pc := 154) 159 dX3_takeRule_154 (by decide) (fun c_154 => ?_) (fun c_154 => ?_)
                              · skip
                                refine v_iload (pc := 159) 1 dX3_takeRule_159 rfl ?_
                                refine v_if_eq (pc := 161) 178 dX3_takeRule_161 (by decide) (fun c_161 => ?_) (fun c_161 => ?_)
                                · skip
                                  refine v_iload_n (pc := 178) 3 dX3_takeRule_178 rfl rfl ?_
                                  refine v_iconst (pc := 179) (v := 1) dX3_takeRule_179 (by decide) ?_
                                  refine v_aload_n (pc := 180) 6 dX3_takeRule_180 rfl rfl ?_
                                  refine gf_188 (pc := 181) 0 dX3_takeRule_181 rfl rfl ?_
                                  refine v_ishl (pc := 184) dX3_takeRule_184 ?_
                                  refine v_ior (pc := 185) dX3_takeRule_185 ?_
                                  refine v_istore_n (pc := 186) (lv' := [(3, .int ((nd_) ||| ((1 : Int32) <<< (((tkV by_ tl p vs)) &&& 31)))), (6, .int (nI i)), (5, .int (bn_)), (4, .int (br_)), (2, .int (tkV by_ tl (tkN by_ tl nx) 0)), (1, .int (tkV by_ tl nx 0)), (0, .ref t0)]) dX3_takeRule_186 rfl (by decide) rfl ?_
                                  refine v_iinc (pc := 187) (v := nI (i + 1)) (lv' := [(6, .int (nI (i + 1))), (3, .int ((nd_) ||| ((1 : Int32) <<< (((tkV by_ tl p vs)) &&& 31)))), (5, .int (bn_)), (4, .int (br_)), (2, .int (tkV by_ tl (tkN by_ tl nx) 0)), (1, .int (tkV by_ tl nx 0)), (0, .ref t0)]) 1 dX3_takeRule_187 rfl (nI_inc (i) 1) (by decide) rfl ?_
                                  refine v_goto (pc := 190) 76 dX3_takeRule_190 (by decide) ?_
                                  refine v_lv (lv' := [(6, .int (nI (i + 1))), (5, .int (bn_)), (4, .int (br_)), (3, .int ((nd_) ||| ((1 : Int32) <<< (((tkV by_ tl p vs)) &&& 31)))), (2, .int (tkV by_ tl (tkN by_ tl nx) 0)), (1, .int (tkV by_ tl nx 0)), (0, .ref t0)]) [0, 2, 3, 1, 4, 5, 6] rfl ?_
                                  refine ih_76 (i + 1) (tkN by_ tl p) (if ntC (tkK by_ tl p) (tkV by_ tl p vs) ((nd_) ||| (br_)) = 0 then (if tkO by_ tl p = true then xf else 1) else ntC (tkK by_ tl p) (tkV by_ tl p vs) ((nd_) ||| (br_))) (if ntC (tkK by_ tl p) (tkV by_ tl p vs) ((nd_) ||| (br_)) = 0 then (if tkO by_ tl p = true then xp else nI (tkS by_ tl p)) else nI (tkS by_ tl p)) (tkK by_ tl p) (tkS by_ tl p) (tkV by_ tl p vs) (if numC (tkK by_ tl p) (tkV by_ tl p vs) 0 5 = 0 then nn ||| ((1 : Int32) <<< ((tkV by_ tl p vs) &&& 31)) else nn) ((nd_) ||| ((1 : Int32) <<< (((tkV by_ tl p vs)) &&& 31))) br_ bn_ (by omega) ?_ ?_ ?_ ?_
                                  · exact (tkN_b h_76_0).2
                                  · rw [h_76_1, show tl + 1 - i = (tl - i) + 1 by omega]; rw [show tl + 1 - (i + 1) = tl - i by omega]; rw [if_pos (nt_ok c_154).1]; exact rl_need c_89 (fun q => q.2.elim c_104 (fun z => z c_109)) (fun q => c_137 q.2) c_154 c_161
                                  · rw [if_pos c_154, if_pos c_89]; exact h_76_2
                                  · omega
                                · skip
                                  refine v_iload (pc := 164) 2 dX3_takeRule_164 rfl ?_
                                  refine v_iconst (pc := 166) (v := 1) dX3_takeRule_166 (by decide) ?_
                                  refine v_aload_n (pc := 167) 6 dX3_takeRule_167 rfl rfl ?_
                                  refine gf_188 (pc := 168) 0 dX3_takeRule_168 rfl rfl ?_
                                  refine v_ishl (pc := 171) dX3_takeRule_171 ?_
                                  refine v_ior (pc := 172) dX3_takeRule_172 ?_
                                  refine v_istore (pc := 173) (lv' := [(4, .int ((br_) ||| ((1 : Int32) <<< (((tkV by_ tl p vs)) &&& 31)))), (6, .int (nI i)), (5, .int (bn_)), (3, .int (nd_)), (2, .int (tkV by_ tl (tkN by_ tl nx) 0)), (1, .int (tkV by_ tl nx 0)), (0, .ref t0)]) dX3_takeRule_173 (by decide) rfl ?_
                                  refine v_goto (pc := 175) 187 dX3_takeRule_175 (by decide) ?_
                                  refine v_iinc (pc := 187) (v := nI (i + 1)) (lv' := [(6, .int (nI (i + 1))), (4, .int ((br_) ||| ((1 : Int32) <<< (((tkV by_ tl p vs)) &&& 31)))), (5, .int (bn_)), (3, .int (nd_)), (2, .int (tkV by_ tl (tkN by_ tl nx) 0)), (1, .int (tkV by_ tl nx 0)), (0, .ref t0)]) 1 dX3_takeRule_187 rfl (nI_inc (i) 1) (by decide) rfl ?_
                                  refine v_goto (pc := 190) 76 dX3_takeRule_190 (by decide) ?_
                                  refine v_lv (lv' := [(6, .int (nI (i + 1))), (5, .int (bn_)), (4, .int ((br_) ||| ((1 : Int32) <<< (((tkV by_ tl p vs)) &&& 31)))), (3, .int (nd_)), (2, .int (tkV by_ tl (tkN by_ tl nx) 0)), (1, .int (tkV by_ tl nx 0)), (0, .ref t0)]) [0, 2, 1, 3, 4, 5, 6] rfl ?_
                                  refine ih_76 (i + 1) (tkN by_ tl p) (if ntC (tkK by_ tl p) (tkV by_ tl p vs) ((nd_) ||| (br_)) = 0 then (if tkO by_ tl p = true then xf else 1) else ntC (tkK by_ tl p) (tkV by_ tl p vs) ((nd_) ||| (br_))) (if ntC (tkK by_ tl p) (tkV by_ tl p vs) ((nd_) ||| (br_)) = 0 then (if tkO by_ tl p = true then xp else nI (tkS by_ tl p)) else nI (tkS by_ tl p)) (tkK by_ tl p) (tkS by_ tl p) (tkV by_ tl p vs) (if numC (tkK by_ tl p) (tkV by_ tl p vs) 0 5 = 0 then nn ||| ((1 : Int32) <<< ((tkV by_ tl p vs) &&& 31)) else nn) nd_ ((br_) ||| ((1 : Int32) <<< (((tkV by_ tl p vs)) &&& 31))) bn_ (by omega) ?_ ?_ ?_ ?_
                                  · exact (tkN_b h_76_0).2
                                  · rw [h_76_1, show tl + 1 - i = (tl - i) + 1 by omega]; rw [show tl + 1 - (i + 1) = tl - i by omega]; rw [if_pos (nt_ok c_154).1]; exact rl_bar c_89 (fun q => q.2.elim c_104 (fun z => z c_109)) (fun q => c_137 q.2) c_154 c_161
                                  · rw [if_pos c_154, if_pos c_89]; exact h_76_2
                                  · omega
                              · skip
                                refine v_iconst (pc := 157) (v := 0) dX3_takeRule_157 (by decide) ?_
                                refine v_zret (pc := 158) dX3_takeRule_158 rfl rfl ⟨rfl, rfl⟩ ⟨(if ntC (tkK by_ tl p) (tkV by_ tl p vs) ((nd_) ||| (br_)) = 0 then (if tkO by_ tl p = true then xf else 1) else ntC (tkK by_ tl p) (tkV by_ tl p vs) ((nd_) ||| (br_))), (if ntC (tkK by_ tl p) (tkV by_ tl p vs) ((nd_) ||| (br_)) = 0 then (if tkO by_ tl p = true then xp else nI (tkS by_ tl p)) else nI (tkS by_ tl p)), (tkN by_ tl p), ((tkK by_ tl p)), (tkS by_ tl p), ((tkV by_ tl p vs)), (if numC (tkK by_ tl p) (tkV by_ tl p vs) 0 5 = 0 then nn ||| ((1 : Int32) <<< ((tkV by_ tl p vs) &&& 31)) else nn), ((if numC (tkK by_ tl nx) (tkV by_ tl nx tv) 0 3 = 0 then tO ||| ((1 : Int32) <<< ((tkV by_ tl nx tv) &&& 31)) else tO)), (rl), (on), (wr), (nd), (br), ?_, rfl, ?_, ?_, ?_⟩
                                · skip
                                  have hR : rlR by_ tl nx tN = ((ntC (tkK by_ tl p) (tkV by_ tl p vs) (nd_ ||| br_), tkS by_ tl p), nd_, br_, nn) := by rw [h_76_1, show tl + 1 - i = (tl - i) + 1 by omega]; exact rl_bad c_89 (fun q => q.2.elim c_104 (fun z => z c_109)) (fun q => c_137 q.2) c_154
                                  have hnz : ¬ ntC (tkK by_ tl p) (tkV by_ tl p vs) (nd_ ||| br_) = 0 := c_154
                                  have hc : lnRule by_ tl nx sa rl tN = (ntC (tkK by_ tl p) (tkV by_ tl p vs) (nd_ ||| br_), tkS by_ tl p) := by have ht : lnRule by_ tl nx sa rl tN = ckN by_ tl nx 0 3 (ckA by_ tl (tkN by_ tl nx) 0 (rlR by_ tl nx tN).1) := if_pos c_9; rw [ht, hcA, hcB, hR]
                                  rw [hc]; exact congrArg (fun z => some (Value.int z)) (if_neg hnz).symm
                                · skip
                                  have hR : rlR by_ tl nx tN = ((ntC (tkK by_ tl p) (tkV by_ tl p vs) (nd_ ||| br_), tkS by_ tl p), nd_, br_, nn) := by rw [h_76_1, show tl + 1 - i = (tl - i) + 1 by omega]; exact rl_bad c_89 (fun q => q.2.elim c_104 (fun z => z c_109)) (fun q => c_137 q.2) c_154
                                  have hnz : ¬ ntC (tkK by_ tl p) (tkV by_ tl p vs) (nd_ ||| br_) = 0 := c_154
                                  have hc : lnRule by_ tl nx sa rl tN = (ntC (tkK by_ tl p) (tkV by_ tl p vs) (nd_ ||| br_), tkS by_ tl p) := by have ht : lnRule by_ tl nx sa rl tN = ckN by_ tl nx 0 3 (ckA by_ tl (tkN by_ tl nx) 0 (rlR by_ tl nx tN).1) := if_pos c_9; rw [ht, hcA, hcB, hR]
                                  rw [hc]; exact fun q => absurd q hnz
                                · skip
                                  have hR : rlR by_ tl nx tN = ((ntC (tkK by_ tl p) (tkV by_ tl p vs) (nd_ ||| br_), tkS by_ tl p), nd_, br_, nn) := by rw [h_76_1, show tl + 1 - i = (tl - i) + 1 by omega]; exact rl_bad c_89 (fun q => q.2.elim c_104 (fun z => z c_109)) (fun q => c_137 q.2) c_154
                                  have hnz : ¬ ntC (tkK by_ tl p) (tkV by_ tl p vs) (nd_ ||| br_) = 0 := c_154
                                  have hc : lnRule by_ tl nx sa rl tN = (ntC (tkK by_ tl p) (tkV by_ tl p vs) (nd_ ||| br_), tkS by_ tl p) := by have ht : lnRule by_ tl nx sa rl tN = ckN by_ tl nx 0 3 (ckA by_ tl (tkN by_ tl nx) 0 (rlR by_ tl nx tN).1) := if_pos c_9; rw [ht, hcA, hcB, hR]
                                  rw [hc]; exact fun _ => ⟨if_neg c_154, if_neg c_154⟩
                                · skip
                                  exact (tkN_b h_76_0).2
                            · skip
                              refine v_iconst (pc := 140) (v := 1) dX3_takeRule_140 (by decide) ?_
                              refine v_istore (pc := 141) (lv' := [(5, .int (1)), (6, .int (nI i)), (4, .int (br_)), (3, .int (nd_)), (2, .int (tkV by_ tl (tkN by_ tl nx) 0)), (1, .int (tkV by_ tl nx 0)), (0, .ref t0)]) dX3_takeRule_141 (by decide) rfl ?_
                              refine v_goto (pc := 143) 187 dX3_takeRule_143 (by decide) ?_
                              refine v_iinc (pc := 187) (v := nI (i + 1)) (lv' := [(6, .int (nI (i + 1))), (5, .int (1)), (4, .int (br_)), (3, .int (nd_)), (2, .int (tkV by_ tl (tkN by_ tl nx) 0)), (1, .int (tkV by_ tl nx 0)), (0, .ref t0)]) 1 dX3_takeRule_187 rfl (nI_inc (i) 1) (by decide) rfl ?_
                              refine v_goto (pc := 190) 76 dX3_takeRule_190 (by decide) ?_
                              refine v_lv (lv' := [(6, .int (nI (i + 1))), (5, .int (1)), (4, .int (br_)), (3, .int (nd_)), (2, .int (tkV by_ tl (tkN by_ tl nx) 0)), (1, .int (tkV by_ tl nx 0)), (0, .ref t0)]) [0, 1, 2, 3, 4, 5, 6] rfl ?_
                              refine ih_76 (i + 1) (tkN by_ tl p) (if tkO by_ tl p = true then xf else 1) (if tkO by_ tl p = true then xp else nI (tkS by_ tl p)) (tkK by_ tl p) (tkS by_ tl p) (tkV by_ tl p vs) nn nd_ br_ 1 (by omega) ?_ ?_ ?_ ?_
                              · exact (tkN_b h_76_0).2
                              · rw [h_76_1, show tl + 1 - i = (tl - i) + 1 by omega]; rw [show tl + 1 - (i + 1) = tl - i by omega]; exact rl_not c_89 (fun q => q.2.elim c_104 (fun z => z c_109)) ⟨c_132, c_137⟩
                              · exact (if_pos c_89).trans h_76_2
                              · omega
                        · skip
                          refine v_aload_n (pc := 112) 6 dX3_takeRule_112 rfl rfl ?_
                          refine gf_176 (pc := 113) 0 dX3_takeRule_113 rfl rfl ?_
                          refine v_iload_n (pc := 116) 5 dX3_takeRule_116 rfl rfl ?_
                          refine v_iload_n (pc := 117) 4 dX3_takeRule_117 rfl rfl ?_
                          refine v_iload_n (pc := 118) 3 dX3_takeRule_118 rfl rfl ?_
                          refine v_iload (pc := 119) 2 dX3_takeRule_119 rfl ?_
                          refine v_callV (pc := 121) (rest := []) [2, 3, 4, 5, 6] 2 lk_400 (c_X2_addRule l E b0 bo bw bn bb bv kn kp rl hm sp td dt on wr nd br (tkV by_ tl nx 0) (tkV by_ tl (tkN by_ tl nx) 0) nd_ br_ (by assumption)) dX3_takeRule_121 rfl rfl (Nat.le_of_ble_eq_true rfl) (by decide) rfl rfl rfl (by decide) rfl (Rt.len rfl) (Rt.go ?_)
                          refine v_w (ws' := [(t0, .inr (3, [.ref b0, .int (nI tl), .int (if tkO by_ tl p = true then xf else 1), .int (if tkO by_ tl p = true then xp else nI (tkS by_ tl p)), .ref tb, .int (nI (tkN by_ tl p)), .int (tkK by_ tl p), .int (nI (tkS by_ tl p)), .int (tkV by_ tl p vs), .int (th), .int (nn), .int ((if numC (tkK by_ tl nx) (tkV by_ tl nx tv) 0 3 = 0 then tO ||| ((1 : Int32) <<< ((tkV by_ tl nx tv) &&& 31)) else tO)), .int (tpd)])), (tb, .inl (E.2.1 0, 160, .inl (by_))), (b0, .inr (2, [.int (nI kn), .int (nI kp), .int (nI (rl + 1)), .int (hm), .int (sp), .int (td), .int (dt), .ref bo, .ref bw, .ref bn, .ref bb, .ref bv])), (bo, .inl (E.2.1 1, 8, .inl (upd on rl (tkV by_ tl nx 0)))), (bw, .inl (E.2.1 1, 8, .inl (upd wr rl (tkV by_ tl (tkN by_ tl nx) 0)))), (bn, .inl (E.2.1 1, 8, .inl (upd nd rl nd_))), (bb, .inl (E.2.1 1, 8, .inl (upd br rl br_)))]) rfl ?_
                          refine v_st (st' := []) rfl ?_
                          refine v_iconst (pc := 124) (v := 1) dX3_takeRule_124 (by decide) ?_
                          refine v_zret (pc := 125) dX3_takeRule_125 rfl rfl ⟨rfl, rfl⟩ ⟨(if tkO by_ tl p = true then xf else 1), (if tkO by_ tl p = true then xp else nI (tkS by_ tl p)), (tkN by_ tl p), (tkK by_ tl p), (tkS by_ tl p), (tkV by_ tl p vs), (nn), ((if numC (tkK by_ tl nx) (tkV by_ tl nx tv) 0 3 = 0 then tO ||| ((1 : Int32) <<< ((tkV by_ tl nx tv) &&& 31)) else tO)), (rl + 1), (upd on rl (tkV by_ tl nx 0)), (upd wr rl (tkV by_ tl (tkN by_ tl nx) 0)), (upd nd rl nd_), (upd br rl br_), ?_, rfl, ?_, ?_, ?_⟩
                          · skip
                            have hR : rlR by_ tl nx tN = ((0, tkN by_ tl p), nd_, br_, nn) := by rw [h_76_1, show tl + 1 - i = (tl - i) + 1 by omega]; exact rl_close c_89 ⟨c_99, (Or.inr c_109)⟩
                            have hc : lnRule by_ tl nx sa rl tN = (0, tkN by_ tl p) := by have ht : lnRule by_ tl nx sa rl tN = ckN by_ tl nx 0 3 (ckA by_ tl (tkN by_ tl nx) 0 (rlR by_ tl nx tN).1) := if_pos c_9; rw [ht, hcA, hcB, hR]
                            rw [hc]; rfl
                          · skip
                            have hR : rlR by_ tl nx tN = ((0, tkN by_ tl p), nd_, br_, nn) := by rw [h_76_1, show tl + 1 - i = (tl - i) + 1 by omega]; exact rl_close c_89 ⟨c_99, (Or.inr c_109)⟩
                            have hc : lnRule by_ tl nx sa rl tN = (0, tkN by_ tl p) := by have ht : lnRule by_ tl nx sa rl tN = ckN by_ tl nx 0 3 (ckA by_ tl (tkN by_ tl nx) 0 (rlR by_ tl nx tN).1) := if_pos c_9; rw [ht, hcA, hcB, hR]
                            rw [hc]; exact fun _ => ⟨(if_pos c_89).trans h_76_2, rfl, rfl, rfl, rfl, by rw [hR], by rw [hR], by rw [hR], by rw [if_pos c_33, hvA]⟩
                          · skip
                            have hR : rlR by_ tl nx tN = ((0, tkN by_ tl p), nd_, br_, nn) := by rw [h_76_1, show tl + 1 - i = (tl - i) + 1 by omega]; exact rl_close c_89 ⟨c_99, (Or.inr c_109)⟩
                            have hc : lnRule by_ tl nx sa rl tN = (0, tkN by_ tl p) := by have ht : lnRule by_ tl nx sa rl tN = ckN by_ tl nx 0 3 (ckA by_ tl (tkN by_ tl nx) 0 (rlR by_ tl nx tN).1) := if_pos c_9; rw [ht, hcA, hcB, hR]
                            rw [hc]; exact fun q => absurd rfl q
                          · skip
                            exact (tkN_b h_76_0).2
                  · skip
                    refine v_iconst (pc := 92) (v := 0) dX3_takeRule_92 (by decide) ?_
                    refine v_zret (pc := 93) dX3_takeRule_93 rfl rfl ⟨rfl, rfl⟩ ⟨(if tkO by_ tl p = true then xf else 1), (if tkO by_ tl p = true then xp else nI (tkS by_ tl p)), (tkN by_ tl p), (tkK by_ tl p), (tkS by_ tl p), (tkV by_ tl p vs), (nn), ((if numC (tkK by_ tl nx) (tkV by_ tl nx tv) 0 3 = 0 then tO ||| ((1 : Int32) <<< ((tkV by_ tl nx tv) &&& 31)) else tO)), (rl), (on), (wr), (nd), (br), ?_, rfl, ?_, ?_, ?_⟩
                    · skip
                      have hR : rlR by_ tl nx tN = ((1, tkS by_ tl p), nd_, br_, nn) := by rw [h_76_1, show tl + 1 - i = (tl - i) + 1 by omega]; exact rl_tok c_89
                      have hc : lnRule by_ tl nx sa rl tN = (1, tkS by_ tl p) := by have ht : lnRule by_ tl nx sa rl tN = ckN by_ tl nx 0 3 (ckA by_ tl (tkN by_ tl nx) 0 (rlR by_ tl nx tN).1) := if_pos c_9; rw [ht, hcA, hcB, hR]
                      rw [hc]; rfl
                    · skip
                      have hR : rlR by_ tl nx tN = ((1, tkS by_ tl p), nd_, br_, nn) := by rw [h_76_1, show tl + 1 - i = (tl - i) + 1 by omega]; exact rl_tok c_89
                      have hc : lnRule by_ tl nx sa rl tN = (1, tkS by_ tl p) := by have ht : lnRule by_ tl nx sa rl tN = ckN by_ tl nx 0 3 (ckA by_ tl (tkN by_ tl nx) 0 (rlR by_ tl nx tN).1) := if_pos c_9; rw [ht, hcA, hcB, hR]
                      rw [hc]; exact fun q => absurd q (show ¬ (1 : Int32) = 0 by decide)
                    · skip
                      have hR : rlR by_ tl nx tN = ((1, tkS by_ tl p), nd_, br_, nn) := by rw [h_76_1, show tl + 1 - i = (tl - i) + 1 by omega]; exact rl_tok c_89
                      have hc : lnRule by_ tl nx sa rl tN = (1, tkS by_ tl p) := by have ht : lnRule by_ tl nx sa rl tN = ckN by_ tl nx 0 3 (ckA by_ tl (tkN by_ tl nx) 0 (rlR by_ tl nx tN).1) := if_pos c_9; rw [ht, hcA, hcB, hR]
                      rw [hc]; exact fun _ => ⟨if_neg c_89, if_neg c_89⟩
                    · skip
                      exact (tkN_b h_76_0).2
            refine v_lv (lv' := [(6, .int (nI 0)), (5, .int (0)), (4, .int (0)), (3, .int (0)), (2, .int (tkV by_ tl (tkN by_ tl nx) 0)), (1, .int (tkV by_ tl nx 0)), (0, .ref t0)]) [0, 1, 2, 3, 4, 5, 6] rfl ?_
            refine loop_76 ((tl + 1 - 0) + 1) 0 (tkN by_ tl (tkN by_ tl nx)) (if ntC (tkK by_ tl (tkN by_ tl nx)) (tkV by_ tl (tkN by_ tl nx) (tkV by_ tl nx tv)) 0 = 0 then (if tkO by_ tl (tkN by_ tl nx) = true then (if numC (tkK by_ tl nx) (tkV by_ tl nx tv) 0 3 = 0 then (if tkO by_ tl nx = true then tf else 1) else numC (tkK by_ tl nx) (tkV by_ tl nx tv) 0 3) else 1) else ntC (tkK by_ tl (tkN by_ tl nx)) (tkV by_ tl (tkN by_ tl nx) (tkV by_ tl nx tv)) 0) (if ntC (tkK by_ tl (tkN by_ tl nx)) (tkV by_ tl (tkN by_ tl nx) (tkV by_ tl nx tv)) 0 = 0 then (if tkO by_ tl (tkN by_ tl nx) = true then (if numC (tkK by_ tl nx) (tkV by_ tl nx tv) 0 3 = 0 then (if tkO by_ tl nx = true then tp else nI (tkS by_ tl nx)) else nI (tkS by_ tl nx)) else nI (tkS by_ tl (tkN by_ tl nx))) else nI (tkS by_ tl (tkN by_ tl nx))) (tkK by_ tl (tkN by_ tl nx)) (tkS by_ tl (tkN by_ tl nx)) (tkV by_ tl (tkN by_ tl nx) (tkV by_ tl nx tv)) (if numC (tkK by_ tl (tkN by_ tl nx)) (tkV by_ tl (tkN by_ tl nx) (tkV by_ tl nx tv)) 0 5 = 0 then tN ||| ((1 : Int32) <<< ((tkV by_ tl (tkN by_ tl nx) (tkV by_ tl nx tv)) &&& 31)) else tN) 0 0 0 (Nat.lt_succ_self _) ?_ ?_ ?_ ?_
            · exact (tkN_b (tkN_b h_nx).2).2
            · unfold rlR; rw [if_pos hqB, hvB, Nat.sub_zero]
            · rw [if_pos c_55, if_pos c_47, if_pos c_33, if_pos c_26]
            · omega
          · skip
            refine v_iconst (pc := 58) (v := 0) dX3_takeRule_58 (by decide) ?_
            refine v_zret (pc := 59) dX3_takeRule_59 rfl rfl ⟨rfl, rfl⟩ ⟨(if ntC (tkK by_ tl (tkN by_ tl nx)) (tkV by_ tl (tkN by_ tl nx) (tkV by_ tl nx tv)) 0 = 0 then (if tkO by_ tl (tkN by_ tl nx) = true then (if numC (tkK by_ tl nx) (tkV by_ tl nx tv) 0 3 = 0 then (if tkO by_ tl nx = true then tf else 1) else numC (tkK by_ tl nx) (tkV by_ tl nx tv) 0 3) else 1) else ntC (tkK by_ tl (tkN by_ tl nx)) (tkV by_ tl (tkN by_ tl nx) (tkV by_ tl nx tv)) 0), (if ntC (tkK by_ tl (tkN by_ tl nx)) (tkV by_ tl (tkN by_ tl nx) (tkV by_ tl nx tv)) 0 = 0 then (if tkO by_ tl (tkN by_ tl nx) = true then (if numC (tkK by_ tl nx) (tkV by_ tl nx tv) 0 3 = 0 then (if tkO by_ tl nx = true then tp else nI (tkS by_ tl nx)) else nI (tkS by_ tl nx)) else nI (tkS by_ tl (tkN by_ tl nx))) else nI (tkS by_ tl (tkN by_ tl nx))), (tkN by_ tl (tkN by_ tl nx)), ((tkK by_ tl (tkN by_ tl nx))), (tkS by_ tl (tkN by_ tl nx)), ((tkV by_ tl (tkN by_ tl nx) (tkV by_ tl nx tv))), (if numC (tkK by_ tl (tkN by_ tl nx)) (tkV by_ tl (tkN by_ tl nx) (tkV by_ tl nx tv)) 0 5 = 0 then tN ||| ((1 : Int32) <<< ((tkV by_ tl (tkN by_ tl nx) (tkV by_ tl nx tv)) &&& 31)) else tN), ((if numC (tkK by_ tl nx) (tkV by_ tl nx tv) 0 3 = 0 then tO ||| ((1 : Int32) <<< ((tkV by_ tl nx tv) &&& 31)) else tO)), (rl), (on), (wr), (nd), (br), ?_, rfl, ?_, ?_, ?_⟩
            · skip
              have hnz : ¬ ntC (tkK by_ tl (tkN by_ tl nx)) (tkV by_ tl (tkN by_ tl nx) (tkV by_ tl nx tv)) 0 = 0 := c_55
              have hc : lnRule by_ tl nx sa rl tN = (ntC (tkK by_ tl (tkN by_ tl nx)) (tkV by_ tl (tkN by_ tl nx) (tkV by_ tl nx tv)) 0, tkS by_ tl (tkN by_ tl nx)) := by have ht : lnRule by_ tl nx sa rl tN = ckN by_ tl nx 0 3 (ckA by_ tl (tkN by_ tl nx) 0 (rlR by_ tl nx tN).1) := if_pos c_9; exact (ht.trans hcA).trans (ckA_no _ c_47 c_55)
              rw [hc]; exact congrArg (fun z => some (Value.int z)) (if_neg hnz).symm
            · skip
              have hnz : ¬ ntC (tkK by_ tl (tkN by_ tl nx)) (tkV by_ tl (tkN by_ tl nx) (tkV by_ tl nx tv)) 0 = 0 := c_55
              have hc : lnRule by_ tl nx sa rl tN = (ntC (tkK by_ tl (tkN by_ tl nx)) (tkV by_ tl (tkN by_ tl nx) (tkV by_ tl nx tv)) 0, tkS by_ tl (tkN by_ tl nx)) := by have ht : lnRule by_ tl nx sa rl tN = ckN by_ tl nx 0 3 (ckA by_ tl (tkN by_ tl nx) 0 (rlR by_ tl nx tN).1) := if_pos c_9; exact (ht.trans hcA).trans (ckA_no _ c_47 c_55)
              rw [hc]; exact fun q => absurd q hnz
            · skip
              have hnz : ¬ ntC (tkK by_ tl (tkN by_ tl nx)) (tkV by_ tl (tkN by_ tl nx) (tkV by_ tl nx tv)) 0 = 0 := c_55
              have hc : lnRule by_ tl nx sa rl tN = (ntC (tkK by_ tl (tkN by_ tl nx)) (tkV by_ tl (tkN by_ tl nx) (tkV by_ tl nx tv)) 0, tkS by_ tl (tkN by_ tl nx)) := by have ht : lnRule by_ tl nx sa rl tN = ckN by_ tl nx 0 3 (ckA by_ tl (tkN by_ tl nx) 0 (rlR by_ tl nx tN).1) := if_pos c_9; exact (ht.trans hcA).trans (ckA_no _ c_47 c_55)
              rw [hc]; exact fun _ => ⟨if_neg c_55, if_neg c_55⟩
            · skip
              exact (tkN_b (tkN_b h_nx).2).2
      · skip
        refine v_iconst (pc := 36) (v := 0) dX3_takeRule_36 (by decide) ?_
        refine v_zret (pc := 37) dX3_takeRule_37 rfl rfl ⟨rfl, rfl⟩ ⟨(if numC (tkK by_ tl nx) (tkV by_ tl nx tv) 0 3 = 0 then (if tkO by_ tl nx = true then tf else 1) else numC (tkK by_ tl nx) (tkV by_ tl nx tv) 0 3), (if numC (tkK by_ tl nx) (tkV by_ tl nx tv) 0 3 = 0 then (if tkO by_ tl nx = true then tp else nI (tkS by_ tl nx)) else nI (tkS by_ tl nx)), (tkN by_ tl nx), ((tkK by_ tl nx)), (tkS by_ tl nx), ((tkV by_ tl nx tv)), (tN), (if numC (tkK by_ tl nx) (tkV by_ tl nx tv) 0 3 = 0 then tO ||| ((1 : Int32) <<< ((tkV by_ tl nx tv) &&& 31)) else tO), (rl), (on), (wr), (nd), (br), ?_, rfl, ?_, ?_, ?_⟩
        · skip
          have hnz : ¬ numC (tkK by_ tl nx) (tkV by_ tl nx tv) 0 3 = 0 := c_33
          have hc : lnRule by_ tl nx sa rl tN = (numC (tkK by_ tl nx) (tkV by_ tl nx tv) 0 3, tkS by_ tl nx) := by have ht : lnRule by_ tl nx sa rl tN = ckN by_ tl nx 0 3 (ckA by_ tl (tkN by_ tl nx) 0 (rlR by_ tl nx tN).1) := if_pos c_9; exact ht.trans (ckN_no tv c_26 c_33)
          rw [hc]; exact congrArg (fun z => some (Value.int z)) (if_neg hnz).symm
        · skip
          have hnz : ¬ numC (tkK by_ tl nx) (tkV by_ tl nx tv) 0 3 = 0 := c_33
          have hc : lnRule by_ tl nx sa rl tN = (numC (tkK by_ tl nx) (tkV by_ tl nx tv) 0 3, tkS by_ tl nx) := by have ht : lnRule by_ tl nx sa rl tN = ckN by_ tl nx 0 3 (ckA by_ tl (tkN by_ tl nx) 0 (rlR by_ tl nx tN).1) := if_pos c_9; exact ht.trans (ckN_no tv c_26 c_33)
          rw [hc]; exact fun q => absurd q hnz
        · skip
          have hnz : ¬ numC (tkK by_ tl nx) (tkV by_ tl nx tv) 0 3 = 0 := c_33
          have hc : lnRule by_ tl nx sa rl tN = (numC (tkK by_ tl nx) (tkV by_ tl nx tv) 0 3, tkS by_ tl nx) := by have ht : lnRule by_ tl nx sa rl tN = ckN by_ tl nx 0 3 (ckA by_ tl (tkN by_ tl nx) 0 (rlR by_ tl nx tN).1) := if_pos c_9; exact ht.trans (ckN_no tv c_26 c_33)
          rw [hc]; exact fun _ => ⟨if_neg c_33, if_neg c_33⟩
        · skip
          exact (tkN_b h_nx).2
  · skip
    refine v_aload_n (pc := 12) 0 dX3_takeRule_12 rfl rfl ?_
    refine v_iconst (pc := 13) (v := 5) dX3_takeRule_13 (by decide) ?_
    refine v_aload_n (pc := 14) 0 dX3_takeRule_14 rfl rfl ?_
    refine gf_187 (pc := 15) 0 dX3_takeRule_15 rfl rfl ?_
    refine v_callV (pc := 18) (rest := []) [0] 0 lk_311 (c_X3_fail l E t0 b0 tb tl nx sa tf tp tk tv th tN tO tpd 5 (nI sa)) dX3_takeRule_18 rfl rfl (Nat.le_of_ble_eq_true rfl) (by decide) rfl rfl rfl (by decide) rfl (Rt.len rfl) (Rt.go ?_)
    refine v_w (ws' := [(t0, .inr (3, [.ref b0, .int (nI tl), .int (5), .int ((nI sa)), .ref tb, .int (nI nx), .int (tk), .int (nI sa), .int (tv), .int (th), .int (tN), .int (tO), .int (tpd)])), (tb, .inl (E.2.1 0, 160, .inl (by_))), (b0, .inr (2, [.int (nI kn), .int (nI kp), .int (nI rl), .int (hm), .int (sp), .int (td), .int (dt), .ref bo, .ref bw, .ref bn, .ref bb, .ref bv])), (bo, .inl (E.2.1 1, 8, .inl (on))), (bw, .inl (E.2.1 1, 8, .inl (wr))), (bn, .inl (E.2.1 1, 8, .inl (nd))), (bb, .inl (E.2.1 1, 8, .inl (br)))]) rfl ?_
    refine v_st (st' := [.int (0)]) rfl ?_
    refine v_zret (pc := 21) dX3_takeRule_21 rfl rfl ⟨rfl, rfl⟩ ⟨(5), ((nI sa)), (nx), (tk), (sa), (tv), (tN), (tO), (rl), (on), (wr), (nd), (br), ?_, rfl, ?_, ?_, ?_⟩
    · skip
      have hc : lnRule by_ tl nx sa rl tN = (5, sa) := by exact if_neg (by omega)
      rw [hc]; rfl
    · skip
      have hc : lnRule by_ tl nx sa rl tN = (5, sa) := by exact if_neg (by omega)
      rw [hc]; exact fun q => absurd q (show ¬ (5 : Int32) = 0 by decide)
    · skip
      have hc : lnRule by_ tl nx sa rl tN = (5, sa) := by exact if_neg (by omega)
      rw [hc]; exact fun _ => ⟨rfl, rfl⟩
    · skip
      exact h_nx
theorem c_X3_lookBehind (l : Launch) (E : VE) (t0 : Nat) (b0 : Nat) (tb : Nat) (tl : Nat) (nx : Nat) (sa : Nat) (tf : Int32) (tp : Int32) (tk : Int32) (tv : Int32) (th : Int32) (tN : Int32) (tO : Int32) (tpd : Int32) (bo : Nat) (bw : Nat) (bn : Nat) (bb : Nat) (bv : Nat) (rl : Nat) (kn : Nat) (kp : Nat) (hm : Int32) (sp : Int32) (td : Int32) (dt : Int32) : Ct l E yX3_lookBehind cX3_lookBehind 1 (Option.none : Option Jvm.ClassFile.FieldType) 1 22 0 0 [.ref t0] [(t0, .inr (3, [.ref b0, .int (nI tl), .int (tf), .int (tp), .ref tb, .int (nI nx), .int (tk), .int (nI sa), .int (tv), .int (th), .int (tN), .int (tO), .int (tpd)])), (b0, .inr (2, [.int (nI kn), .int (nI kp), .int (nI rl), .int (hm), .int (sp), .int (td), .int (dt), .ref bo, .ref bw, .ref bn, .ref bb, .ref bv]))] (Rt none [(t0, .inr (3, [.ref b0, .int (nI tl), .int (if tN >>> ((nI kn) &&& 31) = 0 then (if tO >>> ((nI kp) &&& 31) = 0 then tf else 7) else 6), .int (if tN >>> ((nI kn) &&& 31) = 0 then (if tO >>> ((nI kp) &&& 31) = 0 then tp else nI tl) else nI tl), .ref tb, .int (nI nx), .int (tk), .int (nI sa), .int (tv), .int (th), .int (tN), .int (tO), .int (tpd)])), (b0, .inr (2, [.int (nI kn), .int (nI kp), .int (nI rl), .int (hm), .int (sp), .int (td), .int (dt), .ref bo, .ref bw, .ref bn, .ref bb, .ref bv]))]) := by
  refine Ct.of (own := RX3) (nm := "lookBehind") (lv := [(0, .ref t0)]) (by decide) rfl rfl (Nat.le_of_ble_eq_true rfl) rfl ?_
  refine v_aload_n (pc := 0) 0 dX3_lookBehind_0 rfl rfl ?_
  refine gf_190 (pc := 1) 0 dX3_lookBehind_1 rfl rfl ?_
  refine v_aload_n (pc := 4) 0 dX3_lookBehind_4 rfl rfl ?_
  refine gf_176 (pc := 5) 0 dX3_lookBehind_5 rfl rfl ?_
  refine gf_89 (pc := 8) 1 dX3_lookBehind_8 rfl rfl ?_
  refine v_ishr (pc := 11) dX3_lookBehind_11 ?_
  refine v_if_eq (pc := 12) 29 dX3_lookBehind_12 (by decide) (fun c_12 => ?_) (fun c_12 => ?_)
  · skip
    refine v_aload_n (pc := 29) 0 dX3_lookBehind_29 rfl rfl ?_
    refine gf_191 (pc := 30) 0 dX3_lookBehind_30 rfl rfl ?_
    refine v_aload_n (pc := 33) 0 dX3_lookBehind_33 rfl rfl ?_
    refine gf_176 (pc := 34) 0 dX3_lookBehind_34 rfl rfl ?_
    refine gf_92 (pc := 37) 1 dX3_lookBehind_37 rfl rfl ?_
    refine v_ishr (pc := 40) dX3_lookBehind_40 ?_
    refine v_if_eq (pc := 41) 55 dX3_lookBehind_41 (by decide) (fun c_41 => ?_) (fun c_41 => ?_)
    · skip
      refine v_vret (pc := 55) dX3_lookBehind_55 rfl ⟨rfl, rfl⟩ (Rt.w ?_)
      rw [if_pos c_12, if_pos c_12, if_pos c_41, if_pos c_41]
    · skip
      refine v_aload_n (pc := 44) 0 dX3_lookBehind_44 rfl rfl ?_
      refine v_bipush (pc := 45) (v := 7) dX3_lookBehind_45 (by decide) ?_
      refine v_aload_n (pc := 47) 0 dX3_lookBehind_47 rfl rfl ?_
      refine gf_178 (pc := 48) 0 dX3_lookBehind_48 rfl rfl ?_
      refine v_callV (pc := 51) (rest := []) [0] 0 lk_311 (c_X3_fail l E t0 b0 tb tl nx sa tf tp tk tv th tN tO tpd 7 (nI tl)) dX3_lookBehind_51 rfl rfl (Nat.le_of_ble_eq_true rfl) (by decide) rfl rfl rfl (by decide) rfl (Rt.len rfl) (Rt.go ?_)
      refine v_w (ws' := [(t0, .inr (3, [.ref b0, .int (nI tl), .int (7), .int ((nI tl)), .ref tb, .int (nI nx), .int (tk), .int (nI sa), .int (tv), .int (th), .int (tN), .int (tO), .int (tpd)])), (b0, .inr (2, [.int (nI kn), .int (nI kp), .int (nI rl), .int (hm), .int (sp), .int (td), .int (dt), .ref bo, .ref bw, .ref bn, .ref bb, .ref bv]))]) rfl ?_
      refine v_st (st' := [.int (0)]) rfl ?_
      refine v_pop (pc := 54) dX3_lookBehind_54 rfl ?_
      refine v_vret (pc := 55) dX3_lookBehind_55 rfl ⟨rfl, rfl⟩ (Rt.w ?_)
      rw [if_pos c_12, if_pos c_12, if_neg c_41, if_neg c_41]
  · skip
    refine v_aload_n (pc := 15) 0 dX3_lookBehind_15 rfl rfl ?_
    refine v_bipush (pc := 16) (v := 6) dX3_lookBehind_16 (by decide) ?_
    refine v_aload_n (pc := 18) 0 dX3_lookBehind_18 rfl rfl ?_
    refine gf_178 (pc := 19) 0 dX3_lookBehind_19 rfl rfl ?_
    refine v_callV (pc := 22) (rest := []) [0] 0 lk_311 (c_X3_fail l E t0 b0 tb tl nx sa tf tp tk tv th tN tO tpd 6 (nI tl)) dX3_lookBehind_22 rfl rfl (Nat.le_of_ble_eq_true rfl) (by decide) rfl rfl rfl (by decide) rfl (Rt.len rfl) (Rt.go ?_)
    refine v_w (ws' := [(t0, .inr (3, [.ref b0, .int (nI tl), .int (6), .int ((nI tl)), .ref tb, .int (nI nx), .int (tk), .int (nI sa), .int (tv), .int (th), .int (tN), .int (tO), .int (tpd)])), (b0, .inr (2, [.int (nI kn), .int (nI kp), .int (nI rl), .int (hm), .int (sp), .int (td), .int (dt), .ref bo, .ref bw, .ref bn, .ref bb, .ref bv]))]) rfl ?_
    refine v_st (st' := [.int (0)]) rfl ?_
    refine v_pop (pc := 25) dX3_lookBehind_25 rfl ?_
    refine v_goto (pc := 26) 55 dX3_lookBehind_26 (by decide) ?_
    refine v_vret (pc := 55) dX3_lookBehind_55 rfl ⟨rfl, rfl⟩ (Rt.w ?_)
    rw [if_neg c_12, if_neg c_12]
