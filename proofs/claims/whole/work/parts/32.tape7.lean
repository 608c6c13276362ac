/-! feed, end, text, fault -/
theorem c_X4_feed (l : Launch) (E : VE) (y0 : Nat) (yi : Nat) (yk : Nat) (t0 : Nat) (yn : Nat) (yt : Nat) (ys : Nat) (ym : Nat) (se : Nat) (tn : Int32) (l0 : Nat) (a0 : Nat) (b0 : Nat) (tb : Nat) (tl : Nat) (nx : Nat) (sa : Nat) (tf : Int32) (tp : Int32) (tk : Int32) (tv : Int32) (th : Int32) (tN : Int32) (tO : Int32) (tpd : Int32) (by_ : Nat → Int32) (c : Int32) (h_tl : tl ≤ 160) : Ct l E yX4_feed cX4_feed 2 (Option.some FieldType.int) 1 21 0 0 [.ref y0, .int (c)] [(y0, .inr (4, [.ref a0, .ref yi, .ref yk, .ref l0, .ref t0, .ref yn, .ref yt, .int (nI se), .ref ys, .int (tn), .ref ym])), (t0, .inr (3, [.ref b0, .int (nI tl), .int (tf), .int (tp), .ref tb, .int (nI nx), .int (tk), .int (nI sa), .int (tv), .int (th), .int (tN), .int (tO), .int (tpd)])), (tb, .inl (E.2.1 0, 160, .inl (by_)))] (Rt (some (.int (if c < 0 then -1 else if c ≤ 127 then (if tl < 160 then nI (tl + 1) else -3) else -1))) [(y0, .inr (4, [.ref a0, .ref yi, .ref yk, .ref l0, .ref t0, .ref yn, .ref yt, .int (nI se), .ref ys, .int (tn), .ref ym])), (t0, .inr (3, [.ref b0, .int (nI (if c < 0 then tl else if c ≤ 127 then (if tl < 160 then tl + 1 else tl) else tl)), .int (tf), .int (tp), .ref tb, .int (nI nx), .int (tk), .int (nI sa), .int (tv), .int (th), .int (tN), .int (tO), .int (tpd)])), (tb, .inl (E.2.1 0, 160, .inl (if c < 0 then by_ else if c ≤ 127 then (if tl < 160 then upd by_ tl (vp_nar .byte (c.toInt8.toInt32)) else by_) else by_)))]) := by
  refine Ct.of (own := RX4) (nm := "feed") (lv := [(0, .ref y0), (1, .int (c))]) (by decide) rfl rfl (Nat.le_of_ble_eq_true rfl) rfl ?_
  refine v_iload_n (pc := 0) 1 dX4_feed_0 rfl rfl ?_
  refine v_if_lt (pc := 1) 10 dX4_feed_1 (by decide) (fun c_1 => ?_) (fun c_1 => ?_)
  · skip
    refine v_iconst (pc := 10) (v := -1) dX4_feed_10 (by decide) ?_
    refine v_iret (pc := 11) dX4_feed_11 rfl ⟨rfl, rfl⟩ (Rt.i2 ?_ ?_)
    · skip
      rw [if_pos c_1]
    · skip
      simp only [if_pos c_1]
  · skip
    refine v_iload_n (pc := 4) 1 dX4_feed_4 rfl rfl ?_
    refine v_bipush (pc := 5) (v := 127) dX4_feed_5 (by decide) ?_
    refine v_icmp_le (pc := 7) 12 dX4_feed_7 (by decide) (fun c_7 => ?_) (fun c_7 => ?_)
    · skip
      refine v_aload_n (pc := 12) 0 dX4_feed_12 rfl rfl ?_
      refine gf_244 (pc := 13) 0 dX4_feed_13 rfl rfl ?_
      refine gf_179 (pc := 16) 1 dX4_feed_16 rfl rfl ?_
      refine v_sipush (pc := 19) (v := 160) dX4_feed_19 (by decide) ?_
      refine v_cmpN_lt (pc := 22) (a := tl) (b := 160) 28 dX4_feed_22 (by decide) (by omega) (by omega) (fun c_22 => ?_) (fun c_22 => ?_)
      · skip
        refine v_aload_n (pc := 28) 0 dX4_feed_28 rfl rfl ?_
        refine gf_244 (pc := 29) 0 dX4_feed_29 rfl rfl ?_
        refine v_iload_n (pc := 32) 1 dX4_feed_32 rfl rfl ?_
        refine v_callV (pc := 33) (rest := []) [1, 2] 1 lk_278 (c_X3_append l E t0 b0 tb tl nx sa tf tp tk tv th tN tO tpd by_ c (by first | assumption | omega)) dX4_feed_33 rfl rfl (Nat.le_of_ble_eq_true rfl) (by decide) rfl rfl rfl (by decide) rfl (Rt.len rfl) (Rt.go ?_)
        refine v_w (ws' := [(y0, .inr (4, [.ref a0, .ref yi, .ref yk, .ref l0, .ref t0, .ref yn, .ref yt, .int (nI se), .ref ys, .int (tn), .ref ym])), (t0, .inr (3, [.ref b0, .int (nI (tl + 1)), .int (tf), .int (tp), .ref tb, .int (nI nx), .int (tk), .int (nI sa), .int (tv), .int (th), .int (tN), .int (tO), .int (tpd)])), (tb, .inl (E.2.1 0, 160, .inl (upd by_ tl (vp_nar .byte (c.toInt8.toInt32)))))]) rfl ?_
        refine v_st (st' := []) rfl ?_
        refine v_aload_n (pc := 36) 0 dX4_feed_36 rfl rfl ?_
        refine gf_244 (pc := 37) 0 dX4_feed_37 rfl rfl ?_
        refine gf_179 (pc := 40) 1 dX4_feed_40 rfl rfl ?_
        refine v_iret (pc := 43) dX4_feed_43 rfl ⟨rfl, rfl⟩ (Rt.i2 ?_ ?_)
        · skip
          rw [if_neg c_1, if_pos c_7, if_pos c_22]
        · skip
          simp only [if_neg c_1, if_pos c_7, if_pos c_22]
      · skip
        refine v_bipush (pc := 25) (v := -3) dX4_feed_25 (by decide) ?_
        refine v_iret (pc := 27) dX4_feed_27 rfl ⟨rfl, rfl⟩ (Rt.i2 ?_ ?_)
        · skip
          rw [if_neg c_1, if_pos c_7, if_neg (show ¬ tl < 160 by omega)]
        · skip
          simp only [if_neg c_1, if_pos c_7, if_neg (show ¬ tl < 160 by omega)]
    · skip
      refine v_iconst (pc := 10) (v := -1) dX4_feed_10 (by decide) ?_
      refine v_iret (pc := 11) dX4_feed_11 rfl ⟨rfl, rfl⟩ (Rt.i2 ?_ ?_)
      · skip
        rw [if_neg c_1, if_neg c_7]
      · skip
        simp only [if_neg c_1, if_neg c_7]
theorem c_X4_end (l : Launch) (E : VE) (y0 : Nat) (yi : Nat) (yk : Nat) (t0 : Nat) (yn : Nat) (yt : Nat) (ys : Nat) (ym : Nat) (se : Nat) (tn : Int32) (l0 : Nat) (a0 : Nat) (b0 : Nat) (tb : Nat) (tl : Nat) (nx : Nat) (sa : Nat) (tf : Int32) (tp : Int32) (tk : Int32) (tv : Int32) (th : Int32) (tN : Int32) (tO : Int32) (tpd : Int32) (n : Int32) : Ct l E yX4_end cX4_end 3 (Option.some FieldType.int) 0 0 0 0 [.ref y0, .int (n)] [(y0, .inr (4, [.ref a0, .ref yi, .ref yk, .ref l0, .ref t0, .ref yn, .ref yt, .int (nI se), .ref ys, .int (tn), .ref ym])), (t0, .inr (3, [.ref b0, .int (nI tl), .int (tf), .int (tp), .ref tb, .int (nI nx), .int (tk), .int (nI sa), .int (tv), .int (th), .int (tN), .int (tO), .int (tpd)]))] (Rt (some (.int (if n < 0 then -1 else if n ≤ nI tl then nI tl else -1))) [(y0, .inr (4, [.ref a0, .ref yi, .ref yk, .ref l0, .ref t0, .ref yn, .ref yt, .int (nI se), .ref ys, .int (tn), .ref ym])), (t0, .inr (3, [.ref b0, .int (if n < 0 then nI tl else if n ≤ nI tl then n else nI tl), .int (tf), .int (tp), .ref tb, .int (nI nx), .int (tk), .int (nI sa), .int (tv), .int (th), .int (tN), .int (tO), .int (tpd)]))]) := by
  refine Ct.of (own := RX4) (nm := "end") (lv := [(0, .ref y0), (1, .int (n))]) (by decide) rfl rfl (Nat.le_of_ble_eq_true rfl) rfl ?_
  refine v_iload_n (pc := 0) 1 dX4_end_0 rfl rfl ?_
  refine v_if_lt (pc := 1) 15 dX4_end_1 (by decide) (fun c_1 => ?_) (fun c_1 => ?_)
  · skip
    refine v_iconst (pc := 15) (v := -1) dX4_end_15 (by decide) ?_
    refine v_iret (pc := 16) dX4_end_16 rfl ⟨rfl, rfl⟩ (Rt.i2 ?_ ?_)
    · skip
      rw [if_pos c_1]
    · skip
      simp only [if_pos c_1]
  · skip
    refine v_iload_n (pc := 4) 1 dX4_end_4 rfl rfl ?_
    refine v_aload_n (pc := 5) 0 dX4_end_5 rfl rfl ?_
    refine gf_244 (pc := 6) 0 dX4_end_6 rfl rfl ?_
    refine gf_179 (pc := 9) 1 dX4_end_9 rfl rfl ?_
    refine v_icmp_le (pc := 12) 17 dX4_end_12 (by decide) (fun c_12 => ?_) (fun c_12 => ?_)
    · skip
      refine v_aload_n (pc := 17) 0 dX4_end_17 rfl rfl ?_
      refine gf_244 (pc := 18) 0 dX4_end_18 rfl rfl ?_
      refine gf_179 (pc := 21) 1 dX4_end_21 rfl rfl ?_
      refine v_istore_n (pc := 24) (lv' := [(2, .int (nI tl)), (0, .ref y0), (1, .int (n))]) dX4_end_24 rfl (by decide) rfl ?_
      refine v_aload_n (pc := 25) 1 dX4_end_25 rfl rfl ?_
      refine gf_244 (pc := 26) 0 dX4_end_26 rfl rfl ?_
      refine v_iload_n (pc := 29) 2 dX4_end_29 rfl rfl ?_
      refine pf_179 (pc := 30) (ws' := [(y0, .inr (4, [.ref a0, .ref yi, .ref yk, .ref l0, .ref t0, .ref yn, .ref yt, .int (nI se), .ref ys, .int (tn), .ref ym])), (t0, .inr (3, [.ref b0, .int (n), .int (tf), .int (tp), .ref tb, .int (nI nx), .int (tk), .int (nI sa), .int (tv), .int (th), .int (tN), .int (tO), .int (tpd)]))]) 1 dX4_end_30 rfl rfl rfl (Nat.le_of_ble_eq_true rfl) rfl ?_
      refine v_iload_n (pc := 33) 0 dX4_end_33 rfl rfl ?_
      refine v_iret (pc := 34) dX4_end_34 rfl ⟨rfl, rfl⟩ (Rt.i2 ?_ ?_)
      · skip
        rw [if_neg c_1, if_pos c_12]
      · skip
        simp only [if_neg c_1, if_pos c_12]
    · skip
      refine v_iconst (pc := 15) (v := -1) dX4_end_15 (by decide) ?_
      refine v_iret (pc := 16) dX4_end_16 rfl ⟨rfl, rfl⟩ (Rt.i2 ?_ ?_)
      · skip
        rw [if_neg c_1, if_neg c_12]
      · skip
        simp only [if_neg c_1, if_neg c_12]
theorem c_X4_fault (l : Launch) (E : VE) (y0 : Nat) (yi : Nat) (yk : Nat) (t0 : Nat) (yn : Nat) (yt : Nat) (ys : Nat) (ym : Nat) (se : Nat) (tn : Int32) (l0 : Nat) (a0 : Nat) (b0 : Nat) (tb : Nat) (tl : Nat) (nx : Nat) (sa : Nat) (tf : Int32) (tp : Int32) (tk : Int32) (tv : Int32) (th : Int32) (tN : Int32) (tO : Int32) (tpd : Int32) : Ct l E yX4_fault cX4_fault 1 (Option.some FieldType.int) 0 0 0 0 [.ref y0] [(y0, .inr (4, [.ref a0, .ref yi, .ref yk, .ref l0, .ref t0, .ref yn, .ref yt, .int (nI se), .ref ys, .int (tn), .ref ym])), (t0, .inr (3, [.ref b0, .int (nI tl), .int (tf), .int (tp), .ref tb, .int (nI nx), .int (tk), .int (nI sa), .int (tv), .int (th), .int (tN), .int (tO), .int (tpd)]))] (Rt (some (.int (tf))) [(y0, .inr (4, [.ref a0, .ref yi, .ref yk, .ref l0, .ref t0, .ref yn, .ref yt, .int (nI se), .ref ys, .int (tn), .ref ym])), (t0, .inr (3, [.ref b0, .int (nI tl), .int (tf), .int (tp), .ref tb, .int (nI nx), .int (tk), .int (nI sa), .int (tv), .int (th), .int (tN), .int (tO), .int (tpd)]))]) := by
  refine Ct.of (own := RX4) (nm := "fault") (lv := [(0, .ref y0)]) (by decide) rfl rfl (Nat.le_of_ble_eq_true rfl) rfl ?_
  refine v_aload_n (pc := 0) 0 dX4_fault_0 rfl rfl ?_
  refine gf_244 (pc := 1) 0 dX4_fault_1 rfl rfl ?_
  refine gf_181 (pc := 4) 1 dX4_fault_4 rfl rfl ?_
  refine v_iret (pc := 7) dX4_fault_7 rfl ⟨rfl, rfl⟩ (Rt.i ?_)
  rfl
theorem c_X4_text (l : Launch) (E : VE) (y0 : Nat) (yi : Nat) (yk : Nat) (t0 : Nat) (yn : Nat) (yt : Nat) (ys : Nat) (ym : Nat) (se : Nat) (tn : Int32) (l0 : Nat) (a0 : Nat) (ao : Nat) (aw : Nat) (an : Nat) (ab : Nat) (av : Nat) (nt : Nat) (pp : Nat) (rl : Nat) (hm : Int32) (sp : Int32) (td : Int32) (dt : Int32) (on : Nat → Int32) (wr : Nat → Int32) (nd : Nat → Int32) (br : Nat → Int32) (wo : Nat → Int32) (kp : Nat → Int32) (b0 : Nat) (tb : Nat) (tl : Nat) (nx : Nat) (sa : Nat) (tf : Int32) (tp : Int32) (tk : Int32) (tv : Int32) (th : Int32) (tN : Int32) (tO : Int32) (tpd : Int32) (by_ : Nat → Int32) (bo : Nat) (bw : Nat) (bn : Nat) (bb : Nat) (bv : Nat) (kn3 : Nat) (kp3 : Nat) (rl3 : Nat) (hm3 : Int32) (sp3 : Int32) (td3 : Int32) (dt3 : Int32) (on3 : Nat → Int32) (wr3 : Nat → Int32) (nd3 : Nat → Int32) (br3 : Nat → Int32) (wo3 : Nat → Int32) (h_tl : tl ≤ 160) (h_f : fltL (lnAll by_ tl (tl + 1) 0 (PS.mk 0 0 0 0 0 0 0 0 3 2 on3 wr3 nd3 br3 (fillI wo3 0 6)) 0) = 0) : Ct l E yX4_text cX4_text 3 (Option.some FieldType.int) 8 174 0 0 [.ref y0] [(y0, .inr (4, [.ref a0, .ref yi, .ref yk, .ref l0, .ref t0, .ref yn, .ref yt, .int (nI se), .ref ys, .int (tn), .ref ym])), (t0, .inr (3, [.ref b0, .int (nI tl), .int (tf), .int (tp), .ref tb, .int (nI nx), .int (tk), .int (nI sa), .int (tv), .int (th), .int (tN), .int (tO), .int (tpd)])), (tb, .inl (E.2.1 0, 160, .inl (by_))), (b0, .inr (2, [.int (nI kn3), .int (nI kp3), .int (nI rl3), .int (hm3), .int (sp3), .int (td3), .int (dt3), .ref bo, .ref bw, .ref bn, .ref bb, .ref bv])), (bo, .inl (E.2.1 1, 8, .inl (on3))), (bw, .inl (E.2.1 1, 8, .inl (wr3))), (bn, .inl (E.2.1 1, 8, .inl (nd3))), (bb, .inl (E.2.1 1, 8, .inl (br3))), (bv, .inl (E.2.1 1, 6, .inl (wo3))), (a0, .inr (2, [.int (nI nt), .int (nI pp), .int (nI rl), .int (hm), .int (sp), .int (td), .int (dt), .ref ao, .ref aw, .ref an, .ref ab, .ref av])), (ao, .inl (E.2.1 1, 8, .inl (on))), (aw, .inl (E.2.1 1, 8, .inl (wr))), (an, .inl (E.2.1 1, 8, .inl (nd))), (ab, .inl (E.2.1 1, 8, .inl (br))), (av, .inl (E.2.1 1, 6, .inl (wo))), (yk, .inl (E.2.1 3, 2, .inl (kp)))] (fun v wd => ∃ (tf_ : Int32) (tp_ : Int32) (tx_ : Nat) (tk_ : Int32) (ts_ : Nat) (tv_ : Int32) (th_ : Int32) (tN_ : Int32) (tO_ : Int32) (tpd_ : Int32) (hm_ : Int32) (sp_ : Int32) (td_ : Int32) (rl_ : Nat) (kn_ : Nat) (kp_ : Nat) (on_ : Nat → Int32) (wr_ : Nat → Int32) (nd_ : Nat → Int32) (br_ : Nat → Int32) (wo_ : Nat → Int32), v = some (.int (nI (lnAll by_ tl (tl + 1) 0 (PS.mk 0 0 0 0 0 0 0 0 3 2 on3 wr3 nd3 br3 (fillI wo3 0 6)) 0).2.2)) ∧ wd = [(y0, .inr (4, [.ref a0, .ref yi, .ref yk, .ref l0, .ref t0, .ref yn, .ref yt, .int (0), .ref ys, .int (tn), .ref ym])), (t0, .inr (3, [.ref b0, .int (0), .int (tf_), .int (tp_), .ref tb, .int (nI tx_), .int (tk_), .int (nI ts_), .int (tv_), .int (th_), .int (tN_), .int (tO_), .int (tpd_)])), (tb, .inl (E.2.1 0, 160, .inl (by_))), (b0, .inr (2, [.int (nI kn_), .int (nI kp_), .int (nI rl_), .int (hm_), .int (sp_), .int (td_), .int (0), .ref bo, .ref bw, .ref bn, .ref bb, .ref bv])), (bo, .inl (E.2.1 1, 8, .inl (on_))), (bw, .inl (E.2.1 1, 8, .inl (wr_))), (bn, .inl (E.2.1 1, 8, .inl (nd_))), (bb, .inl (E.2.1 1, 8, .inl (br_))), (bv, .inl (E.2.1 1, 6, .inl (wo_))), (a0, .inr (2, [.int (nI kn_), .int (nI kp_), .int (nI rl_), .int (hm_), .int (sp_), .int (td_), .int (0), .ref ao, .ref aw, .ref an, .ref ab, .ref av])), (ao, .inl (E.2.1 1, 8, .inl (va_cpy (on_) (on) 0 0 8))), (aw, .inl (E.2.1 1, 8, .inl (va_cpy (wr_) (wr) 0 0 8))), (an, .inl (E.2.1 1, 8, .inl (va_cpy (nd_) (nd) 0 0 8))), (ab, .inl (E.2.1 1, 8, .inl (va_cpy (br_) (br) 0 0 8))), (av, .inl (E.2.1 1, 6, .inl (va_cpy (wo_) (wo) 0 0 6))), (yk, .inl (E.2.1 3, 2, .inl (upd (upd kp 0 (vp_nar .boolean 0)) 1 (vp_nar .boolean 0))))] ∧ (tf_ = 0) ∧ (PS.mk th_ tN_ tO_ tpd_ hm_ sp_ td_ rl_ kn_ kp_ on_ wr_ nd_ br_ wo_ = (lnAll by_ tl (tl + 1) 0 (PS.mk 0 0 0 0 0 0 0 0 3 2 on3 wr3 nd3 br3 (fillI wo3 0 6)) 0).2.1)) := by
  refine Ct.of (own := RX4) (nm := "text") (lv := [(0, .ref y0)]) (by decide) rfl rfl (Nat.le_of_ble_eq_true rfl) rfl ?_
  refine v_aload_n (pc := 0) 0 dX4_text_0 rfl rfl ?_
  refine gf_244 (pc := 1) 0 dX4_text_1 rfl rfl ?_
  refine v_callV (pc := 4) (rest := []) [1, 2, 3, 4, 5, 6, 7, 8] 1 lk_290 (c_X3_tell l E t0 b0 tb tl nx sa tf tp tk tv th tN tO tpd by_ bo bw bn bb bv rl3 kn3 kp3 hm3 sp3 td3 dt3 on3 wr3 nd3 br3 wo3 (by first | assumption | omega)) dX4_text_4 rfl rfl (Nat.le_of_ble_eq_true rfl) (by decide) rfl rfl rfl (by decide) rfl (by rintro _ _ ⟨_, _, _, _, _, _, _, _, _, _, _, _, _, _, _, _, _, _, _, _, _, _, rfl, _⟩; rfl) ?_
  rintro _ _ ⟨tf_4, tp_4, tx_4, tk_4, ts_4, tv_4, th_4, tN_4, tO_4, tpd_4, hm_4, sp_4, td_4, rl_4, kn_4, kp_4, on_4, wr_4, nd_4, br_4, wo_4, rfl, rfl, hf4_0, hf4_1, hf4_2⟩
  refine v_w (ws' := [(y0, .inr (4, [.ref a0, .ref yi, .ref yk, .ref l0, .ref t0, .ref yn, .ref yt, .int (nI se), .ref ys, .int (tn), .ref ym])), (t0, .inr (3, [.ref b0, .int (nI tl), .int (tf_4), .int (tp_4), .ref tb, .int (nI tx_4), .int (tk_4), .int (nI ts_4), .int (tv_4), .int (th_4), .int (tN_4), .int (tO_4), .int (tpd_4)])), (tb, .inl (E.2.1 0, 160, .inl (by_))), (b0, .inr (2, [.int (nI kn_4), .int (nI kp_4), .int (nI rl_4), .int (hm_4), .int (sp_4), .int (td_4), .int (0), .ref bo, .ref bw, .ref bn, .ref bb, .ref bv])), (bo, .inl (E.2.1 1, 8, .inl (on_4))), (bw, .inl (E.2.1 1, 8, .inl (wr_4))), (bn, .inl (E.2.1 1, 8, .inl (nd_4))), (bb, .inl (E.2.1 1, 8, .inl (br_4))), (bv, .inl (E.2.1 1, 6, .inl (wo_4))), (a0, .inr (2, [.int (nI nt), .int (nI pp), .int (nI rl), .int (hm), .int (sp), .int (td), .int (dt), .ref ao, .ref aw, .ref an, .ref ab, .ref av])), (ao, .inl (E.2.1 1, 8, .inl (on))), (aw, .inl (E.2.1 1, 8, .inl (wr))), (an, .inl (E.2.1 1, 8, .inl (nd))), (ab, .inl (E.2.1 1, 8, .inl (br))), (av, .inl (E.2.1 1, 6, .inl (wo))), (yk, .inl (E.2.1 3, 2, .inl (kp)))]) rfl ?_
  refine v_st (st' := [.int (nI (lnAll by_ tl (tl + 1) 0 (PS.mk 0 0 0 0 0 0 0 0 3 2 on3 wr3 nd3 br3 (fillI wo3 0 6)) 0).2.2)]) rfl ?_
  refine v_istore_n (pc := 7) (lv' := [(1, .int (nI (lnAll by_ tl (tl + 1) 0 (PS.mk 0 0 0 0 0 0 0 0 3 2 on3 wr3 nd3 br3 (fillI wo3 0 6)) 0).2.2)), (0, .ref y0)]) dX4_text_7 rfl (by decide) rfl ?_
  refine v_aload_n (pc := 8) 1 dX4_text_8 rfl rfl ?_
  refine gf_244 (pc := 9) 0 dX4_text_9 rfl rfl ?_
  refine v_iconst (pc := 12) (v := 0) dX4_text_12 (by decide) ?_
  refine pf_179 (pc := 13) (ws' := [(y0, .inr (4, [.ref a0, .ref yi, .ref yk, .ref l0, .ref t0, .ref yn, .ref yt, .int (nI se), .ref ys, .int (tn), .ref ym])), (t0, .inr (3, [.ref b0, .int (0), .int (tf_4), .int (tp_4), .ref tb, .int (nI tx_4), .int (tk_4), .int (nI ts_4), .int (tv_4), .int (th_4), .int (tN_4), .int (tO_4), .int (tpd_4)])), (tb, .inl (E.2.1 0, 160, .inl (by_))), (b0, .inr (2, [.int (nI kn_4), .int (nI kp_4), .int (nI rl_4), .int (hm_4), .int (sp_4), .int (td_4), .int (0), .ref bo, .ref bw, .ref bn, .ref bb, .ref bv])), (bo, .inl (E.2.1 1, 8, .inl (on_4))), (bw, .inl (E.2.1 1, 8, .inl (wr_4))), (bn, .inl (E.2.1 1, 8, .inl (nd_4))), (bb, .inl (E.2.1 1, 8, .inl (br_4))), (bv, .inl (E.2.1 1, 6, .inl (wo_4))), (a0, .inr (2, [.int (nI nt), .int (nI pp), .int (nI rl), .int (hm), .int (sp), .int (td), .int (dt), .ref ao, .ref aw, .ref an, .ref ab, .ref av])), (ao, .inl (E.2.1 1, 8, .inl (on))), (aw, .inl (E.2.1 1, 8, .inl (wr))), (an, .inl (E.2.1 1, 8, .inl (nd))), (ab, .inl (E.2.1 1, 8, .inl (br))), (av, .inl (E.2.1 1, 6, .inl (wo))), (yk, .inl (E.2.1 3, 2, .inl (kp)))]) 1 dX4_text_13 rfl rfl rfl (Nat.le_of_ble_eq_true rfl) rfl ?_
  refine v_aload_n (pc := 16) 1 dX4_text_16 rfl rfl ?_
  refine gf_244 (pc := 17) 0 dX4_text_17 rfl rfl ?_
  refine gf_181 (pc := 20) 1 dX4_text_20 rfl rfl ?_
  refine v_if_eq (pc := 23) 37 dX4_text_23 (by decide) (fun c_23 => ?_) (fun c_23 => ?_)
  · skip
    refine v_aload_n (pc := 37) 1 dX4_text_37 rfl rfl ?_
    refine gf_240 (pc := 38) 0 dX4_text_38 rfl rfl ?_
    refine v_aload_n (pc := 41) 1 dX4_text_41 rfl rfl ?_
    refine gf_244 (pc := 42) 0 dX4_text_42 rfl rfl ?_
    refine gf_177 (pc := 45) 1 dX4_text_45 rfl rfl ?_
    refine v_callV (pc := 48) (rest := []) [9, 10, 11, 12, 13, 14, 3, 4, 5, 6, 7, 8] 9 lk_430 (c_X2_become l E a0 ao aw an ab av nt pp rl hm sp td dt on wr nd br wo b0 bo bw bn bb bv kn_4 kp_4 rl_4 hm_4 sp_4 td_4 0 on_4 wr_4 nd_4 br_4 wo_4) dX4_text_48 rfl rfl (Nat.le_of_ble_eq_true rfl) (by decide) rfl rfl rfl (by decide) rfl (Rt.len rfl) (Rt.go ?_)
    refine v_w (ws' := [(y0, .inr (4, [.ref a0, .ref yi, .ref yk, .ref l0, .ref t0, .ref yn, .ref yt, .int (nI se), .ref ys, .int (tn), .ref ym])), (t0, .inr (3, [.ref b0, .int (0), .int (tf_4), .int (tp_4), .ref tb, .int (nI tx_4), .int (tk_4), .int (nI ts_4), .int (tv_4), .int (th_4), .int (tN_4), .int (tO_4), .int (tpd_4)])), (tb, .inl (E.2.1 0, 160, .inl (by_))), (b0, .inr (2, [.int (nI kn_4), .int (nI kp_4), .int (nI rl_4), .int (hm_4), .int (sp_4), .int (td_4), .int (0), .ref bo, .ref bw, .ref bn, .ref bb, .ref bv])), (bo, .inl (E.2.1 1, 8, .inl (on_4))), (bw, .inl (E.2.1 1, 8, .inl (wr_4))), (bn, .inl (E.2.1 1, 8, .inl (nd_4))), (bb, .inl (E.2.1 1, 8, .inl (br_4))), (bv, .inl (E.2.1 1, 6, .inl (wo_4))), (a0, .inr (2, [.int (nI kn_4), .int (nI kp_4), .int (nI rl_4), .int (hm_4), .int (sp_4), .int (td_4), .int (0), .ref ao, .ref aw, .ref an, .ref ab, .ref av])), (ao, .inl (E.2.1 1, 8, .inl (va_cpy (on_4) (on) 0 0 8))), (aw, .inl (E.2.1 1, 8, .inl (va_cpy (wr_4) (wr) 0 0 8))), (an, .inl (E.2.1 1, 8, .inl (va_cpy (nd_4) (nd) 0 0 8))), (ab, .inl (E.2.1 1, 8, .inl (va_cpy (br_4) (br) 0 0 8))), (av, .inl (E.2.1 1, 6, .inl (va_cpy (wo_4) (wo) 0 0 6))), (yk, .inl (E.2.1 3, 2, .inl (kp)))]) rfl ?_
    refine v_st (st' := []) rfl ?_
    refine v_aload_n (pc := 51) 1 dX4_text_51 rfl rfl ?_
    refine v_iconst (pc := 52) (v := 0) dX4_text_52 (by decide) ?_
    refine pf_247 (pc := 53) (ws' := [(y0, .inr (4, [.ref a0, .ref yi, .ref yk, .ref l0, .ref t0, .ref yn, .ref yt, .int (0), .ref ys, .int (tn), .ref ym])), (t0, .inr (3, [.ref b0, .int (0), .int (tf_4), .int (tp_4), .ref tb, .int (nI tx_4), .int (tk_4), .int (nI ts_4), .int (tv_4), .int (th_4), .int (tN_4), .int (tO_4), .int (tpd_4)])), (tb, .inl (E.2.1 0, 160, .inl (by_))), (b0, .inr (2, [.int (nI kn_4), .int (nI kp_4), .int (nI rl_4), .int (hm_4), .int (sp_4), .int (td_4), .int (0), .ref bo, .ref bw, .ref bn, .ref bb, .ref bv])), (bo, .inl (E.2.1 1, 8, .inl (on_4))), (bw, .inl (E.2.1 1, 8, .inl (wr_4))), (bn, .inl (E.2.1 1, 8, .inl (nd_4))), (bb, .inl (E.2.1 1, 8, .inl (br_4))), (bv, .inl (E.2.1 1, 6, .inl (wo_4))), (a0, .inr (2, [.int (nI kn_4), .int (nI kp_4), .int (nI rl_4), .int (hm_4), .int (sp_4), .int (td_4), .int (0), .ref ao, .ref aw, .ref an, .ref ab, .ref av])), (ao, .inl (E.2.1 1, 8, .inl (va_cpy (on_4) (on) 0 0 8))), (aw, .inl (E.2.1 1, 8, .inl (va_cpy (wr_4) (wr) 0 0 8))), (an, .inl (E.2.1 1, 8, .inl (va_cpy (nd_4) (nd) 0 0 8))), (ab, .inl (E.2.1 1, 8, .inl (va_cpy (br_4) (br) 0 0 8))), (av, .inl (E.2.1 1, 6, .inl (va_cpy (wo_4) (wo) 0 0 6))), (yk, .inl (E.2.1 3, 2, .inl (kp)))]) 0 dX4_text_53 rfl rfl rfl (Nat.le_of_ble_eq_true rfl) rfl ?_
    refine v_iconst (pc := 56) (v := 0) dX4_text_56 (by decide) ?_
    refine v_istore_n (pc := 57) (lv' := [(2, .int (0)), (1, .int (nI (lnAll by_ tl (tl + 1) 0 (PS.mk 0 0 0 0 0 0 0 0 3 2 on3 wr3 nd3 br3 (fillI wo3 0 6)) 0).2.2)), (0, .ref y0)]) dX4_text_57 rfl (by decide) rfl ?_
    refine v_iload_n (pc := 58) 0 dX4_text_58 rfl rfl ?_
    refine v_iconst (pc := 59) (v := 2) dX4_text_59 (by decide) ?_
    refine v_icmp_ge (pc := 60) 76 dX4_text_60 (by decide) (fun c => absurd c (by decide)) (fun _ => ?_)
    refine v_aload_n (pc := 63) 2 dX4_text_63 rfl rfl ?_
    refine gf_242 (pc := 64) 0 dX4_text_64 rfl rfl ?_
    refine v_iload_n (pc := 67) 0 dX4_text_67 rfl rfl ?_
    refine v_iconst (pc := 68) (v := 0) dX4_text_68 (by decide) ?_
    refine v_zastN (pc := 69) (ws' := [(y0, .inr (4, [.ref a0, .ref yi, .ref yk, .ref l0, .ref t0, .ref yn, .ref yt, .int (0), .ref ys, .int (tn), .ref ym])), (t0, .inr (3, [.ref b0, .int (0), .int (tf_4), .int (tp_4), .ref tb, .int (nI tx_4), .int (tk_4), .int (nI ts_4), .int (tv_4), .int (th_4), .int (tN_4), .int (tO_4), .int (tpd_4)])), (tb, .inl (E.2.1 0, 160, .inl (by_))), (b0, .inr (2, [.int (nI kn_4), .int (nI kp_4), .int (nI rl_4), .int (hm_4), .int (sp_4), .int (td_4), .int (0), .ref bo, .ref bw, .ref bn, .ref bb, .ref bv])), (bo, .inl (E.2.1 1, 8, .inl (on_4))), (bw, .inl (E.2.1 1, 8, .inl (wr_4))), (bn, .inl (E.2.1 1, 8, .inl (nd_4))), (bb, .inl (E.2.1 1, 8, .inl (br_4))), (bv, .inl (E.2.1 1, 6, .inl (wo_4))), (a0, .inr (2, [.int (nI kn_4), .int (nI kp_4), .int (nI rl_4), .int (hm_4), .int (sp_4), .int (td_4), .int (0), .ref ao, .ref aw, .ref an, .ref ab, .ref av])), (ao, .inl (E.2.1 1, 8, .inl (va_cpy (on_4) (on) 0 0 8))), (aw, .inl (E.2.1 1, 8, .inl (va_cpy (wr_4) (wr) 0 0 8))), (an, .inl (E.2.1 1, 8, .inl (va_cpy (nd_4) (nd) 0 0 8))), (ab, .inl (E.2.1 1, 8, .inl (va_cpy (br_4) (br) 0 0 8))), (av, .inl (E.2.1 1, 6, .inl (va_cpy (wo_4) (wo) 0 0 6))), (yk, .inl (E.2.1 3, 2, .inl (upd (kp) (0) (vp_nar .boolean (0)))))]) 15 3 (0) dX4_text_69 rfl rfl rfl (by decide) (by decide) rfl ?_
    refine v_iinc (pc := 70) (v := 1) (lv' := [(2, .int (1)), (1, .int (nI (lnAll by_ tl (tl + 1) 0 (PS.mk 0 0 0 0 0 0 0 0 3 2 on3 wr3 nd3 br3 (fillI wo3 0 6)) 0).2.2)), (0, .ref y0)]) 0 dX4_text_70 rfl (by decide) (by decide) rfl ?_
    refine v_goto (pc := 73) 58 dX4_text_73 (by decide) ?_
    refine v_iload_n (pc := 58) 0 dX4_text_58 rfl rfl ?_
    refine v_iconst (pc := 59) (v := 2) dX4_text_59 (by decide) ?_
    refine v_icmp_ge (pc := 60) 76 dX4_text_60 (by decide) (fun c => absurd c (by decide)) (fun _ => ?_)
    refine v_aload_n (pc := 63) 2 dX4_text_63 rfl rfl ?_
    refine gf_242 (pc := 64) 0 dX4_text_64 rfl rfl ?_
    refine v_iload_n (pc := 67) 0 dX4_text_67 rfl rfl ?_
    refine v_iconst (pc := 68) (v := 0) dX4_text_68 (by decide) ?_
    refine v_zastN (pc := 69) (ws' := [(y0, .inr (4, [.ref a0, .ref yi, .ref yk, .ref l0, .ref t0, .ref yn, .ref yt, .int (0), .ref ys, .int (tn), .ref ym])), (t0, .inr (3, [.ref b0, .int (0), .int (tf_4), .int (tp_4), .ref tb, .int (nI tx_4), .int (tk_4), .int (nI ts_4), .int (tv_4), .int (th_4), .int (tN_4), .int (tO_4), .int (tpd_4)])), (tb, .inl (E.2.1 0, 160, .inl (by_))), (b0, .inr (2, [.int (nI kn_4), .int (nI kp_4), .int (nI rl_4), .int (hm_4), .int (sp_4), .int (td_4), .int (0), .ref bo, .ref bw, .ref bn, .ref bb, .ref bv])), (bo, .inl (E.2.1 1, 8, .inl (on_4))), (bw, .inl (E.2.1 1, 8, .inl (wr_4))), (bn, .inl (E.2.1 1, 8, .inl (nd_4))), (bb, .inl (E.2.1 1, 8, .inl (br_4))), (bv, .inl (E.2.1 1, 6, .inl (wo_4))), (a0, .inr (2, [.int (nI kn_4), .int (nI kp_4), .int (nI rl_4), .int (hm_4), .int (sp_4), .int (td_4), .int (0), .ref ao, .ref aw, .ref an, .ref ab, .ref av])), (ao, .inl (E.2.1 1, 8, .inl (va_cpy (on_4) (on) 0 0 8))), (aw, .inl (E.2.1 1, 8, .inl (va_cpy (wr_4) (wr) 0 0 8))), (an, .inl (E.2.1 1, 8, .inl (va_cpy (nd_4) (nd) 0 0 8))), (ab, .inl (E.2.1 1, 8, .inl (va_cpy (br_4) (br) 0 0 8))), (av, .inl (E.2.1 1, 6, .inl (va_cpy (wo_4) (wo) 0 0 6))), (yk, .inl (E.2.1 3, 2, .inl (upd (upd (kp) (0) (vp_nar .boolean (0))) (1) (vp_nar .boolean (0)))))]) 15 3 (1) dX4_text_69 rfl rfl rfl (by decide) (by decide) rfl ?_
    refine v_iinc (pc := 70) (v := 2) (lv' := [(2, .int (2)), (1, .int (nI (lnAll by_ tl (tl + 1) 0 (PS.mk 0 0 0 0 0 0 0 0 3 2 on3 wr3 nd3 br3 (fillI wo3 0 6)) 0).2.2)), (0, .ref y0)]) 0 dX4_text_70 rfl (by decide) (by decide) rfl ?_
    refine v_goto (pc := 73) 58 dX4_text_73 (by decide) ?_
    refine v_iload_n (pc := 58) 0 dX4_text_58 rfl rfl ?_
    refine v_iconst (pc := 59) (v := 2) dX4_text_59 (by decide) ?_
    refine v_icmp_ge (pc := 60) 76 dX4_text_60 (by decide) (fun _ => ?_) (fun c => absurd c (by decide))
    refine v_iload_n (pc := 76) 1 dX4_text_76 rfl rfl ?_
    refine v_iret (pc := 77) dX4_text_77 rfl ⟨rfl, rfl⟩ ⟨(tf_4), (tp_4), (tx_4), (tk_4), (ts_4), (tv_4), (th_4), (tN_4), (tO_4), (tpd_4), (hm_4), (sp_4), (td_4), (rl_4), (kn_4), (kp_4), (on_4), (wr_4), (nd_4), (br_4), (wo_4), ?_, rfl, ?_, ?_⟩
    · skip
      rfl
    · skip
      exact c_23
    · skip
      exact hf4_2 c_23
  · skip
    exact absurd (hf4_0.trans h_f) c_23
theorem cB_X4_text (l : Launch) (E : VE) (y0 : Nat) (yi : Nat) (yk : Nat) (t0 : Nat) (yn : Nat) (yt : Nat) (ys : Nat) (ym : Nat) (se : Nat) (tn : Int32) (l0 : Nat) (a0 : Nat) (ao : Nat) (aw : Nat) (an : Nat) (ab : Nat) (av : Nat) (nt : Nat) (pp : Nat) (rl : Nat) (hm : Int32) (sp : Int32) (td : Int32) (dt : Int32) (on : Nat → Int32) (wr : Nat → Int32) (nd : Nat → Int32) (br : Nat → Int32) (wo : Nat → Int32) (kp : Nat → Int32) (b0 : Nat) (tb : Nat) (tl : Nat) (nx : Nat) (sa : Nat) (tf : Int32) (tp : Int32) (tk : Int32) (tv : Int32) (th : Int32) (tN : Int32) (tO : Int32) (tpd : Int32) (by_ : Nat → Int32) (bo : Nat) (bw : Nat) (bn : Nat) (bb : Nat) (bv : Nat) (kn3 : Nat) (kp3 : Nat) (rl3 : Nat) (hm3 : Int32) (sp3 : Int32) (td3 : Int32) (dt3 : Int32) (on3 : Nat → Int32) (wr3 : Nat → Int32) (nd3 : Nat → Int32) (br3 : Nat → Int32) (wo3 : Nat → Int32) (h_tl : tl ≤ 160) (h_f : ¬ fltL (lnAll by_ tl (tl + 1) 0 (PS.mk 0 0 0 0 0 0 0 0 3 2 on3 wr3 nd3 br3 (fillI wo3 0 6)) 0) = 0) : Ct l E yX4_text cX4_text 3 (Option.some FieldType.int) 8 174 0 0 [.ref y0] [(y0, .inr (4, [.ref a0, .ref yi, .ref yk, .ref l0, .ref t0, .ref yn, .ref yt, .int (nI se), .ref ys, .int (tn), .ref ym])), (t0, .inr (3, [.ref b0, .int (nI tl), .int (tf), .int (tp), .ref tb, .int (nI nx), .int (tk), .int (nI sa), .int (tv), .int (th), .int (tN), .int (tO), .int (tpd)])), (tb, .inl (E.2.1 0, 160, .inl (by_))), (b0, .inr (2, [.int (nI kn3), .int (nI kp3), .int (nI rl3), .int (hm3), .int (sp3), .int (td3), .int (dt3), .ref bo, .ref bw, .ref bn, .ref bb, .ref bv])), (bo, .inl (E.2.1 1, 8, .inl (on3))), (bw, .inl (E.2.1 1, 8, .inl (wr3))), (bn, .inl (E.2.1 1, 8, .inl (nd3))), (bb, .inl (E.2.1 1, 8, .inl (br3))), (bv, .inl (E.2.1 1, 6, .inl (wo3))), (a0, .inr (2, [.int (nI nt), .int (nI pp), .int (nI rl), .int (hm), .int (sp), .int (td), .int (dt), .ref ao, .ref aw, .ref an, .ref ab, .ref av])), (ao, .inl (E.2.1 1, 8, .inl (on))), (aw, .inl (E.2.1 1, 8, .inl (wr))), (an, .inl (E.2.1 1, 8, .inl (nd))), (ab, .inl (E.2.1 1, 8, .inl (br))), (av, .inl (E.2.1 1, 6, .inl (wo))), (yk, .inl (E.2.1 3, 2, .inl (kp)))] (fun v wd => ∃ (tf_ : Int32) (tp_ : Int32) (tx_ : Nat) (tk_ : Int32) (ts_ : Nat) (tv_ : Int32) (th_ : Int32) (tN_ : Int32) (tO_ : Int32) (tpd_ : Int32) (hm_ : Int32) (sp_ : Int32) (td_ : Int32) (rl_ : Nat) (kn_ : Nat) (kp_ : Nat) (on_ : Nat → Int32) (wr_ : Nat → Int32) (nd_ : Nat → Int32) (br_ : Nat → Int32) (wo_ : Nat → Int32), v = some (.int (-10 - nI (plcL tl (lnAll by_ tl (tl + 1) 0 (PS.mk 0 0 0 0 0 0 0 0 3 2 on3 wr3 nd3 br3 (fillI wo3 0 6)) 0)))) ∧ wd = [(y0, .inr (4, [.ref a0, .ref yi, .ref yk, .ref l0, .ref t0, .ref yn, .ref yt, .int (nI se), .ref ys, .int (tn), .ref ym])), (t0, .inr (3, [.ref b0, .int (0), .int (tf_), .int (tp_), .ref tb, .int (nI tx_), .int (tk_), .int (nI ts_), .int (tv_), .int (th_), .int (tN_), .int (tO_), .int (tpd_)])), (tb, .inl (E.2.1 0, 160, .inl (by_))), (b0, .inr (2, [.int (nI kn_), .int (nI kp_), .int (nI rl_), .int (hm_), .int (sp_), .int (td_), .int (0), .ref bo, .ref bw, .ref bn, .ref bb, .ref bv])), (bo, .inl (E.2.1 1, 8, .inl (on_))), (bw, .inl (E.2.1 1, 8, .inl (wr_))), (bn, .inl (E.2.1 1, 8, .inl (nd_))), (bb, .inl (E.2.1 1, 8, .inl (br_))), (bv, .inl (E.2.1 1, 6, .inl (wo_))), (a0, .inr (2, [.int (nI nt), .int (nI pp), .int (nI rl), .int (hm), .int (sp), .int (td), .int (dt), .ref ao, .ref aw, .ref an, .ref ab, .ref av])), (ao, .inl (E.2.1 1, 8, .inl (on))), (aw, .inl (E.2.1 1, 8, .inl (wr))), (an, .inl (E.2.1 1, 8, .inl (nd))), (ab, .inl (E.2.1 1, 8, .inl (br))), (av, .inl (E.2.1 1, 6, .inl (wo))), (yk, .inl (E.2.1 3, 2, .inl (kp)))] ∧ (tf_ = fltL (lnAll by_ tl (tl + 1) 0 (PS.mk 0 0 0 0 0 0 0 0 3 2 on3 wr3 nd3 br3 (fillI wo3 0 6)) 0))) := by
  refine Ct.of (own := RX4) (nm := "text") (lv := [(0, .ref y0)]) (by decide) rfl rfl (Nat.le_of_ble_eq_true rfl) rfl ?_
  refine v_aload_n (pc := 0) 0 dX4_text_0 rfl rfl ?_
  refine gf_244 (pc := 1) 0 dX4_text_1 rfl rfl ?_
  refine v_callV (pc := 4) (rest := []) [1, 2, 3, 4, 5, 6, 7, 8] 1 lk_290 (c_X3_tell l E t0 b0 tb tl nx sa tf tp tk tv th tN tO tpd by_ bo bw bn bb bv rl3 kn3 kp3 hm3 sp3 td3 dt3 on3 wr3 nd3 br3 wo3 (by first | assumption | omega)) dX4_text_4 rfl rfl (Nat.le_of_ble_eq_true rfl) (by decide) rfl rfl rfl (by decide) rfl (by rintro _ _ ⟨_, _, _, _, _, _, _, _, _, _, _, _, _, _, _, _, _, _, _, _, _, _, rfl, _⟩; rfl) ?_
  rintro _ _ ⟨tf_4, tp_4, tx_4, tk_4, ts_4, tv_4, th_4, tN_4, tO_4, tpd_4, hm_4, sp_4, td_4, rl_4, kn_4, kp_4, on_4, wr_4, nd_4, br_4, wo_4, rfl, rfl, hf4_0, hf4_1, hf4_2⟩
  refine v_w (ws' := [(y0, .inr (4, [.ref a0, .ref yi, .ref yk, .ref l0, .ref t0, .ref yn, .ref yt, .int (nI se), .ref ys, .int (tn), .ref ym])), (t0, .inr (3, [.ref b0, .int (nI tl), .int (tf_4), .int (tp_4), .ref tb, .int (nI tx_4), .int (tk_4), .int (nI ts_4), .int (tv_4), .int (th_4), .int (tN_4), .int (tO_4), .int (tpd_4)])), (tb, .inl (E.2.1 0, 160, .inl (by_))), (b0, .inr (2, [.int (nI kn_4), .int (nI kp_4), .int (nI rl_4), .int (hm_4), .int (sp_4), .int (td_4), .int (0), .ref bo, .ref bw, .ref bn, .ref bb, .ref bv])), (bo, .inl (E.2.1 1, 8, .inl (on_4))), (bw, .inl (E.2.1 1, 8, .inl (wr_4))), (bn, .inl (E.2.1 1, 8, .inl (nd_4))), (bb, .inl (E.2.1 1, 8, .inl (br_4))), (bv, .inl (E.2.1 1, 6, .inl (wo_4))), (a0, .inr (2, [.int (nI nt), .int (nI pp), .int (nI rl), .int (hm), .int (sp), .int (td), .int (dt), .ref ao, .ref aw, .ref an, .ref ab, .ref av])), (ao, .inl (E.2.1 1, 8, .inl (on))), (aw, .inl (E.2.1 1, 8, .inl (wr))), (an, .inl (E.2.1 1, 8, .inl (nd))), (ab, .inl (E.2.1 1, 8, .inl (br))), (av, .inl (E.2.1 1, 6, .inl (wo))), (yk, .inl (E.2.1 3, 2, .inl (kp)))]) rfl ?_
  refine v_st (st' := [.int (nI (lnAll by_ tl (tl + 1) 0 (PS.mk 0 0 0 0 0 0 0 0 3 2 on3 wr3 nd3 br3 (fillI wo3 0 6)) 0).2.2)]) rfl ?_
  refine v_istore_n (pc := 7) (lv' := [(1, .int (nI (lnAll by_ tl (tl + 1) 0 (PS.mk 0 0 0 0 0 0 0 0 3 2 on3 wr3 nd3 br3 (fillI wo3 0 6)) 0).2.2)), (0, .ref y0)]) dX4_text_7 rfl (by decide) rfl ?_
  refine v_aload_n (pc := 8) 1 dX4_text_8 rfl rfl ?_
  refine gf_244 (pc := 9) 0 dX4_text_9 rfl rfl ?_
  refine v_iconst (pc := 12) (v := 0) dX4_text_12 (by decide) ?_
  refine pf_179 (pc := 13) (ws' := [(y0, .inr (4, [.ref a0, .ref yi, .ref yk, .ref l0, .ref t0, .ref yn, .ref yt, .int (nI se), .ref ys, .int (tn), .ref ym])), (t0, .inr (3, [.ref b0, .int (0), .int (tf_4), .int (tp_4), .ref tb, .int (nI tx_4), .int (tk_4), .int (nI ts_4), .int (tv_4), .int (th_4), .int (tN_4), .int (tO_4), .int (tpd_4)])), (tb, .inl (E.2.1 0, 160, .inl (by_))), (b0, .inr (2, [.int (nI kn_4), .int (nI kp_4), .int (nI rl_4), .int (hm_4), .int (sp_4), .int (td_4), .int (0), .ref bo, .ref bw, .ref bn, .ref bb, .ref bv])), (bo, .inl (E.2.1 1, 8, .inl (on_4))), (bw, .inl (E.2.1 1, 8, .inl (wr_4))), (bn, .inl (E.2.1 1, 8, .inl (nd_4))), (bb, .inl (E.2.1 1, 8, .inl (br_4))), (bv, .inl (E.2.1 1, 6, .inl (wo_4))), (a0, .inr (2, [.int (nI nt), .int (nI pp), .int (nI rl), .int (hm), .int (sp), .int (td), .int (dt), .ref ao, .ref aw, .ref an, .ref ab, .ref av])), (ao, .inl (E.2.1 1, 8, .inl (on))), (aw, .inl (E.2.1 1, 8, .inl (wr))), (an, .inl (E.2.1 1, 8, .inl (nd))), (ab, .inl (E.2.1 1, 8, .inl (br))), (av, .inl (E.2.1 1, 6, .inl (wo))), (yk, .inl (E.2.1 3, 2, .inl (kp)))]) 1 dX4_text_13 rfl rfl rfl (Nat.le_of_ble_eq_true rfl) rfl ?_
  refine v_aload_n (pc := 16) 1 dX4_text_16 rfl rfl ?_
  refine gf_244 (pc := 17) 0 dX4_text_17 rfl rfl ?_
  refine gf_181 (pc := 20) 1 dX4_text_20 rfl rfl ?_
  refine v_if_eq (pc := 23) 37 dX4_text_23 (by decide) (fun c_23 => ?_) (fun c_23 => ?_)
  · skip
    exact absurd (hf4_0.symm.trans c_23) h_f
  · skip
    refine v_bipush (pc := 26) (v := -10) dX4_text_26 (by decide) ?_
    refine v_aload_n (pc := 28) 1 dX4_text_28 rfl rfl ?_
    refine gf_244 (pc := 29) 0 dX4_text_29 rfl rfl ?_
    refine gf_183 (pc := 32) 1 dX4_text_32 rfl rfl ?_
    refine v_isub (pc := 35) dX4_text_35 ?_
    refine v_iret (pc := 36) dX4_text_36 rfl ⟨rfl, rfl⟩ ⟨(tf_4), (tp_4), (tx_4), (tk_4), (ts_4), (tv_4), (th_4), (tN_4), (tO_4), (tpd_4), (hm_4), (sp_4), (td_4), (rl_4), (kn_4), (kp_4), (on_4), (wr_4), (nd_4), (br_4), (wo_4), ?_, rfl, ?_⟩
    · skip
      rw [hf4_1 c_23]
    · skip
      exact hf4_0
