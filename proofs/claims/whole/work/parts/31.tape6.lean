/-! tell -/
theorem c_X3_tell (l : Launch) (E : VE) (t0 : Nat) (b0 : Nat) (tb : Nat) (tl : Nat) (nx : Nat) (sa : Nat) (tf : Int32) (tp : Int32) (tk : Int32) (tv : Int32) (th : Int32) (tN : Int32) (tO : Int32) (tpd : Int32) (by_ : Nat → Int32) (bo : Nat) (bw : Nat) (bn : Nat) (bb : Nat) (bv : Nat) (rl : Nat) (kn : Nat) (kp : Nat) (hm : Int32) (sp : Int32) (td : Int32) (dt : Int32) (on : Nat → Int32) (wr : Nat → Int32) (nd : Nat → Int32) (br : Nat → Int32) (wo : Nat → Int32) (h_tl : tl ≤ 160) : Ct l E yX3_tell cX3_tell 2 (Option.some FieldType.int) 7 153 0 0 [.ref t0] [(t0, .inr (3, [.ref b0, .int (nI tl), .int (tf), .int (tp), .ref tb, .int (nI nx), .int (tk), .int (nI sa), .int (tv), .int (th), .int (tN), .int (tO), .int (tpd)])), (tb, .inl (E.2.1 0, 160, .inl (by_))), (b0, .inr (2, [.int (nI kn), .int (nI kp), .int (nI rl), .int (hm), .int (sp), .int (td), .int (dt), .ref bo, .ref bw, .ref bn, .ref bb, .ref bv])), (bo, .inl (E.2.1 1, 8, .inl (on))), (bw, .inl (E.2.1 1, 8, .inl (wr))), (bn, .inl (E.2.1 1, 8, .inl (nd))), (bb, .inl (E.2.1 1, 8, .inl (br))), (bv, .inl (E.2.1 1, 6, .inl (wo)))] (fun v wd => ∃ (tf_ : Int32) (tp_ : Int32) (tx_ : Nat) (tk_ : Int32) (ts_ : Nat) (tv_ : Int32) (th_ : Int32) (tN_ : Int32) (tO_ : Int32) (tpd_ : Int32) (hm_ : Int32) (sp_ : Int32) (td_ : Int32) (rl_ : Nat) (kn_ : Nat) (kp_ : Nat) (on_ : Nat → Int32) (wr_ : Nat → Int32) (nd_ : Nat → Int32) (br_ : Nat → Int32) (wo_ : Nat → Int32), v = some (.int (nI (lnAll by_ tl (tl + 1) 0 (PS.mk 0 0 0 0 0 0 0 0 3 2 on wr nd br (fillI wo 0 6)) 0).2.2)) ∧ wd = [(t0, .inr (3, [.ref b0, .int (nI tl), .int (tf_), .int (tp_), .ref tb, .int (nI tx_), .int (tk_), .int (nI ts_), .int (tv_), .int (th_), .int (tN_), .int (tO_), .int (tpd_)])), (tb, .inl (E.2.1 0, 160, .inl (by_))), (b0, .inr (2, [.int (nI kn_), .int (nI kp_), .int (nI rl_), .int (hm_), .int (sp_), .int (td_), .int (0), .ref bo, .ref bw, .ref bn, .ref bb, .ref bv])), (bo, .inl (E.2.1 1, 8, .inl (on_))), (bw, .inl (E.2.1 1, 8, .inl (wr_))), (bn, .inl (E.2.1 1, 8, .inl (nd_))), (bb, .inl (E.2.1 1, 8, .inl (br_))), (bv, .inl (E.2.1 1, 6, .inl (wo_)))] ∧ (tf_ = fltL (lnAll by_ tl (tl + 1) 0 (PS.mk 0 0 0 0 0 0 0 0 3 2 on wr nd br (fillI wo 0 6)) 0)) ∧ (¬ tf_ = 0 → tp_ = nI (plcL tl (lnAll by_ tl (tl + 1) 0 (PS.mk 0 0 0 0 0 0 0 0 3 2 on wr nd br (fillI wo 0 6)) 0))) ∧ (tf_ = 0 → PS.mk th_ tN_ tO_ tpd_ hm_ sp_ td_ rl_ kn_ kp_ on_ wr_ nd_ br_ wo_ = (lnAll by_ tl (tl + 1) 0 (PS.mk 0 0 0 0 0 0 0 0 3 2 on wr nd br (fillI wo 0 6)) 0).2.1)) := by
  refine Ct.of (own := RX3) (nm := "tell") (lv := [(0, .ref t0)]) (by decide) rfl rfl (Nat.le_of_ble_eq_true rfl) rfl ?_
  refine v_aload_n (pc := 0) 0 dX3_tell_0 rfl rfl ?_
  refine gf_176 (pc := 1) 0 dX3_tell_1 rfl rfl ?_
  refine v_callV (pc := 4) (rest := []) [2, 7] 2 lk_294 (c_X2_clear l E b0 bo bw bn bb bv kn kp rl hm sp td dt wo) dX3_tell_4 rfl rfl (Nat.le_of_ble_eq_true rfl) (by decide) rfl rfl rfl (by decide) rfl (Rt.len rfl) (Rt.go ?_)
  refine v_w (ws' := [(t0, .inr (3, [.ref b0, .int (nI tl), .int (tf), .int (tp), .ref tb, .int (nI nx), .int (tk), .int (nI sa), .int (tv), .int (th), .int (tN), .int (tO), .int (tpd)])), (tb, .inl (E.2.1 0, 160, .inl (by_))), (b0, .inr (2, [.int (3), .int (2), .int (0), .int (0), .int (0), .int (0), .int (0), .ref bo, .ref bw, .ref bn, .ref bb, .ref bv])), (bo, .inl (E.2.1 1, 8, .inl (on))), (bw, .inl (E.2.1 1, 8, .inl (wr))), (bn, .inl (E.2.1 1, 8, .inl (nd))), (bb, .inl (E.2.1 1, 8, .inl (br))), (bv, .inl (E.2.1 1, 6, .inl (fillI wo 0 6)))]) rfl ?_
  refine v_st (st' := []) rfl ?_
  refine v_aload_n (pc := 7) 0 dX3_tell_7 rfl rfl ?_
  refine v_iconst (pc := 8) (v := 0) dX3_tell_8 (by decide) ?_
  refine pf_185 (pc := 9) (ws' := [(t0, .inr (3, [.ref b0, .int (nI tl), .int (tf), .int (tp), .ref tb, .int (0), .int (tk), .int (nI sa), .int (tv), .int (th), .int (tN), .int (tO), .int (tpd)])), (tb, .inl (E.2.1 0, 160, .inl (by_))), (b0, .inr (2, [.int (3), .int (2), .int (0), .int (0), .int (0), .int (0), .int (0), .ref bo, .ref bw, .ref bn, .ref bb, .ref bv])), (bo, .inl (E.2.1 1, 8, .inl (on))), (bw, .inl (E.2.1 1, 8, .inl (wr))), (bn, .inl (E.2.1 1, 8, .inl (nd))), (bb, .inl (E.2.1 1, 8, .inl (br))), (bv, .inl (E.2.1 1, 6, .inl (fillI wo 0 6)))]) 0 dX3_tell_9 rfl rfl rfl (Nat.le_of_ble_eq_true rfl) rfl ?_
  refine v_aload_n (pc := 12) 0 dX3_tell_12 rfl rfl ?_
  refine v_iconst (pc := 13) (v := 0) dX3_tell_13 (by decide) ?_
  refine pf_180 (pc := 14) (ws' := [(t0, .inr (3, [.ref b0, .int (nI tl), .int (0), .int (tp), .ref tb, .int (0), .int (tk), .int (nI sa), .int (tv), .int (th), .int (tN), .int (tO), .int (tpd)])), (tb, .inl (E.2.1 0, 160, .inl (by_))), (b0, .inr (2, [.int (3), .int (2), .int (0), .int (0), .int (0), .int (0), .int (0), .ref bo, .ref bw, .ref bn, .ref bb, .ref bv])), (bo, .inl (E.2.1 1, 8, .inl (on))), (bw, .inl (E.2.1 1, 8, .inl (wr))), (bn, .inl (E.2.1 1, 8, .inl (nd))), (bb, .inl (E.2.1 1, 8, .inl (br))), (bv, .inl (E.2.1 1, 6, .inl (fillI wo 0 6)))]) 0 dX3_tell_14 rfl rfl rfl (Nat.le_of_ble_eq_true rfl) rfl ?_
  refine v_aload_n (pc := 17) 0 dX3_tell_17 rfl rfl ?_
  refine v_iconst (pc := 18) (v := 0) dX3_tell_18 (by decide) ?_
  refine pf_189 (pc := 19) (ws' := [(t0, .inr (3, [.ref b0, .int (nI tl), .int (0), .int (tp), .ref tb, .int (0), .int (tk), .int (nI sa), .int (tv), .int (0), .int (tN), .int (tO), .int (tpd)])), (tb, .inl (E.2.1 0, 160, .inl (by_))), (b0, .inr (2, [.int (3), .int (2), .int (0), .int (0), .int (0), .int (0), .int (0), .ref bo, .ref bw, .ref bn, .ref bb, .ref bv])), (bo, .inl (E.2.1 1, 8, .inl (on))), (bw, .inl (E.2.1 1, 8, .inl (wr))), (bn, .inl (E.2.1 1, 8, .inl (nd))), (bb, .inl (E.2.1 1, 8, .inl (br))), (bv, .inl (E.2.1 1, 6, .inl (fillI wo 0 6)))]) 0 dX3_tell_19 rfl rfl rfl (Nat.le_of_ble_eq_true rfl) rfl ?_
  refine v_aload_n (pc := 22) 0 dX3_tell_22 rfl rfl ?_
  refine v_iconst (pc := 23) (v := 0) dX3_tell_23 (by decide) ?_
  refine pf_190 (pc := 24) (ws' := [(t0, .inr (3, [.ref b0, .int (nI tl), .int (0), .int (tp), .ref tb, .int (0), .int (tk), .int (nI sa), .int (tv), .int (0), .int (0), .int (tO), .int (tpd)])), (tb, .inl (E.2.1 0, 160, .inl (by_))), (b0, .inr (2, [.int (3), .int (2), .int (0), .int (0), .int (0), .int (0), .int (0), .ref bo, .ref bw, .ref bn, .ref bb, .ref bv])), (bo, .inl (E.2.1 1, 8, .inl (on))), (bw, .inl (E.2.1 1, 8, .inl (wr))), (bn, .inl (E.2.1 1, 8, .inl (nd))), (bb, .inl (E.2.1 1, 8, .inl (br))), (bv, .inl (E.2.1 1, 6, .inl (fillI wo 0 6)))]) 0 dX3_tell_24 rfl rfl rfl (Nat.le_of_ble_eq_true rfl) rfl ?_
  refine v_aload_n (pc := 27) 0 dX3_tell_27 rfl rfl ?_
  refine v_iconst (pc := 28) (v := 0) dX3_tell_28 (by decide) ?_
  refine pf_191 (pc := 29) (ws' := [(t0, .inr (3, [.ref b0, .int (nI tl), .int (0), .int (tp), .ref tb, .int (0), .int (tk), .int (nI sa), .int (tv), .int (0), .int (0), .int (0), .int (tpd)])), (tb, .inl (E.2.1 0, 160, .inl (by_))), (b0, .inr (2, [.int (3), .int (2), .int (0), .int (0), .int (0), .int (0), .int (0), .ref bo, .ref bw, .ref bn, .ref bb, .ref bv])), (bo, .inl (E.2.1 1, 8, .inl (on))), (bw, .inl (E.2.1 1, 8, .inl (wr))), (bn, .inl (E.2.1 1, 8, .inl (nd))), (bb, .inl (E.2.1 1, 8, .inl (br))), (bv, .inl (E.2.1 1, 6, .inl (fillI wo 0 6)))]) 0 dX3_tell_29 rfl rfl rfl (Nat.le_of_ble_eq_true rfl) rfl ?_
  refine v_aload_n (pc := 32) 0 dX3_tell_32 rfl rfl ?_
  refine v_iconst (pc := 33) (v := 0) dX3_tell_33 (by decide) ?_
  refine pf_192 (pc := 34) (ws' := [(t0, .inr (3, [.ref b0, .int (nI tl), .int (0), .int (tp), .ref tb, .int (0), .int (tk), .int (nI sa), .int (tv), .int (0), .int (0), .int (0), .int (0)])), (tb, .inl (E.2.1 0, 160, .inl (by_))), (b0, .inr (2, [.int (3), .int (2), .int (0), .int (0), .int (0), .int (0), .int (0), .ref bo, .ref bw, .ref bn, .ref bb, .ref bv])), (bo, .inl (E.2.1 1, 8, .inl (on))), (bw, .inl (E.2.1 1, 8, .inl (wr))), (bn, .inl (E.2.1 1, 8, .inl (nd))), (bb, .inl (E.2.1 1, 8, .inl (br))), (bv, .inl (E.2.1 1, 6, .inl (fillI wo 0 6)))]) 0 dX3_tell_34 rfl rfl rfl (Nat.le_of_ble_eq_true rfl) rfl ?_
  refine v_iconst (pc := 37) (v := 0) dX3_tell_37 (by decide) ?_
  refine v_istore_n (pc := 38) (lv' := [(1, .int (0)), (0, .ref t0)]) dX3_tell_38 rfl (by decide) rfl ?_
  have loop_39 : ∀ (D_39 : Nat) (i : Nat) (p : Nat) (xf : Int32) (xp : Int32) (ks : Int32) (ss : Nat) (vs : Int32) (th1 : Int32) (tN1 : Int32) (tO1 : Int32) (tpd1 : Int32) (hm1 : Int32) (sp1 : Int32) (td1 : Int32) (rl1 : Nat) (kn1 : Nat) (kp1 : Nat) (on1 : Nat → Int32) (wr1 : Nat → Int32) (nd1 : Nat → Int32) (br1 : Nat → Int32) (wo1 : Nat → Int32), tl + 1 - i < D_39 → (p ≤ tl) → (lnAll by_ tl (tl + 1) 0 (PS.mk 0 0 0 0 0 0 0 0 3 2 on wr nd br (fillI wo 0 6)) 0 = lnAll by_ tl (tl + 1 - i) p (PS.mk th1 tN1 tO1 tpd1 hm1 sp1 td1 rl1 kn1 kp1 on1 wr1 nd1 br1 wo1) i) → (xf = 0) → (i ≤ tl + 1) → (rl1 ≤ 8) → V l E RX3 cX3_tell 2 (Option.some FieldType.int) "tell" ({ frames := 7, cells := 0, slots := 0, locals := 153 }) [(t0, .inr (3, [.ref b0, .int (nI tl), .int (tf), .int (tp), .ref tb, .int (nI nx), .int (tk), .int (nI sa), .int (tv), .int (th), .int (tN), .int (tO), .int (tpd)])), (tb, .inl (E.2.1 0, 160, .inl (by_))), (b0, .inr (2, [.int (nI kn), .int (nI kp), .int (nI rl), .int (hm), .int (sp), .int (td), .int (dt), .ref bo, .ref bw, .ref bn, .ref bb, .ref bv])), (bo, .inl (E.2.1 1, 8, .inl (on))), (bw, .inl (E.2.1 1, 8, .inl (wr))), (bn, .inl (E.2.1 1, 8, .inl (nd))), (bb, .inl (E.2.1 1, 8, .inl (br))), (bv, .inl (E.2.1 1, 6, .inl (wo)))] 0 0 (fun v wd => ∃ (tf_ : Int32) (tp_ : Int32) (tx_ : Nat) (tk_ : Int32) (ts_ : Nat) (tv_ : Int32) (th_ : Int32) (tN_ : Int32) (tO_ : Int32) (tpd_ : Int32) (hm_ : Int32) (sp_ : Int32) (td_ : Int32) (rl_ : Nat) (kn_ : Nat) (kp_ : Nat) (on_ : Nat → Int32) (wr_ : Nat → Int32) (nd_ : Nat → Int32) (br_ : Nat → Int32) (wo_ : Nat → Int32), v = some (.int (nI (lnAll by_ tl (tl + 1) 0 (PS.mk 0 0 0 0 0 0 0 0 3 2 on wr nd br (fillI wo 0 6)) 0).2.2)) ∧ wd = [(t0, .inr (3, [.ref b0, .int (nI tl), .int (tf_), .int (tp_), .ref tb, .int (nI tx_), .int (tk_), .int (nI ts_), .int (tv_), .int (th_), .int (tN_), .int (tO_), .int (tpd_)])), (tb, .inl (E.2.1 0, 160, .inl (by_))), (b0, .inr (2, [.int (nI kn_), .int (nI kp_), .int (nI rl_), .int (hm_), .int (sp_), .int (td_), .int (0), .ref bo, .ref bw, .ref bn, .ref bb, .ref bv])), (bo, .inl (E.2.1 1, 8, .inl (on_))), (bw, .inl (E.2.1 1, 8, .inl (wr_))), (bn, .inl (E.2.1 1, 8, .inl (nd_))), (bb, .inl (E.2.1 1, 8, .inl (br_))), (bv, .inl (E.2.1 1, 6, .inl (wo_)))] ∧ (tf_ = fltL (lnAll by_ tl (tl + 1) 0 (PS.mk 0 0 0 0 0 0 0 0 3 2 on wr nd br (fillI wo 0 6)) 0)) ∧ (¬ tf_ = 0 → tp_ = nI (plcL tl (lnAll by_ tl (tl + 1) 0 (PS.mk 0 0 0 0 0 0 0 0 3 2 on wr nd br (fillI wo 0 6)) 0))) ∧ (tf_ = 0 → PS.mk th_ tN_ tO_ tpd_ hm_ sp_ td_ rl_ kn_ kp_ on_ wr_ nd_ br_ wo_ = (lnAll by_ tl (tl + 1) 0 (PS.mk 0 0 0 0 0 0 0 0 3 2 on wr nd br (fillI wo 0 6)) 0).2.1)) 0 0 39 [(1, .int (nI i)), (0, .ref t0)] [] [(t0, .inr (3, [.ref b0, .int (nI tl), .int (xf), .int (xp), .ref tb, .int (nI p), .int (ks), .int (nI ss), .int (vs), .int (th1), .int (tN1), .int (tO1), .int (tpd1)])), (tb, .inl (E.2.1 0, 160, .inl (by_))), (b0, .inr (2, [.int (nI kn1), .int (nI kp1), .int (nI rl1), .int (hm1), .int (sp1), .int (td1), .int (0), .ref bo, .ref bw, .ref bn, .ref bb, .ref bv])), (bo, .inl (E.2.1 1, 8, .inl (on1))), (bw, .inl (E.2.1 1, 8, .inl (wr1))), (bn, .inl (E.2.1 1, 8, .inl (nd1))), (bb, .inl (E.2.1 1, 8, .inl (br1))), (bv, .inl (E.2.1 1, 6, .inl (wo1)))] := by
    intro D_39
    induction D_39 with
    | zero => intro i p xf xp ks ss vs th1 tN1 tO1 tpd1 hm1 sp1 td1 rl1 kn1 kp1 on1 wr1 nd1 br1 wo1 h; exact absurd h (Nat.not_lt_zero _)
    | succ D_39 ih_39 =>
      intro i p xf xp ks ss vs th1 tN1 tO1 tpd1 hm1 sp1 td1 rl1 kn1 kp1 on1 wr1 nd1 br1 wo1 hmu_39 h_39_0 h_39_1 h_39_2 h_39_3 h_39_4
      refine v_iload_n (pc := 39) 0 dX3_tell_39 rfl rfl ?_
      refine v_aload_n (pc := 40) 1 dX3_tell_40 rfl rfl ?_
      refine gf_178 (pc := 41) 0 dX3_tell_41 rfl rfl ?_
      refine v_cmpN_gt (pc := 44) (a := i) (b := tl) 74 dX3_tell_44 (by decide) (by omega) (by omega) (fun c_44 => ?_) (fun c_44 => ?_)
      · skip
        refine v_aload_n (pc := 74) 1 dX3_tell_74 rfl rfl ?_
        refine gf_180 (pc := 75) 0 dX3_tell_75 rfl rfl ?_
        refine v_if_ne (pc := 78) 85 dX3_tell_78 (by decide) (fun c_78 => ?_) (fun c_78 => ?_)
        · skip
          refine v_iload_n (pc := 85) 0 dX3_tell_85 rfl rfl ?_
          refine v_iret (pc := 86) dX3_tell_86 rfl ⟨rfl, rfl⟩ ⟨(xf), (xp), (p), (ks), (ss), (vs), (th1), (tN1), (tO1), (tpd1), (hm1), (sp1), (td1), (rl1), (kn1), (kp1), (on1), (wr1), (nd1), (br1), (wo1), ?_, rfl, ?_, ?_, ?_⟩
          · skip
            exact absurd (by exact h_39_2) c_78
          · skip
            exact absurd (by exact h_39_2) c_78
          · skip
            exact absurd (by exact h_39_2) c_78
          · skip
            exact absurd (by exact h_39_2) c_78
        · skip
          refine v_aload_n (pc := 81) 1 dX3_tell_81 rfl rfl ?_
          refine v_callV (pc := 82) (rest := []) [0, 2] 0 lk_426 (c_X3_lookBehind l E t0 b0 tb tl p ss xf xp ks vs th1 tN1 tO1 tpd1 bo bw bn bb bv rl1 kn1 kp1 hm1 sp1 td1 0) dX3_tell_82 rfl rfl (Nat.le_of_ble_eq_true rfl) (by decide) rfl rfl rfl (by decide) rfl (Rt.len rfl) (Rt.go ?_)
          refine v_w (ws' := [(t0, .inr (3, [.ref b0, .int (nI tl), .int (if tN1 >>> ((nI kn1) &&& 31) = 0 then (if tO1 >>> ((nI kp1) &&& 31) = 0 then xf else 7) else 6), .int (if tN1 >>> ((nI kn1) &&& 31) = 0 then (if tO1 >>> ((nI kp1) &&& 31) = 0 then xp else nI tl) else nI tl), .ref tb, .int (nI p), .int (ks), .int (nI ss), .int (vs), .int (th1), .int (tN1), .int (tO1), .int (tpd1)])), (tb, .inl (E.2.1 0, 160, .inl (by_))), (b0, .inr (2, [.int (nI kn1), .int (nI kp1), .int (nI rl1), .int (hm1), .int (sp1), .int (td1), .int (0), .ref bo, .ref bw, .ref bn, .ref bb, .ref bv])), (bo, .inl (E.2.1 1, 8, .inl (on1))), (bw, .inl (E.2.1 1, 8, .inl (wr1))), (bn, .inl (E.2.1 1, 8, .inl (nd1))), (bb, .inl (E.2.1 1, 8, .inl (br1))), (bv, .inl (E.2.1 1, 6, .inl (wo1)))]) rfl ?_
          refine v_st (st' := []) rfl ?_
          refine v_iload_n (pc := 85) 0 dX3_tell_85 rfl rfl ?_
          refine v_iret (pc := 86) dX3_tell_86 rfl ⟨rfl, rfl⟩ ⟨(if tN1 >>> ((nI kn1) &&& 31) = 0 then (if tO1 >>> ((nI kp1) &&& 31) = 0 then xf else 7) else 6), (if tN1 >>> ((nI kn1) &&& 31) = 0 then (if tO1 >>> ((nI kp1) &&& 31) = 0 then xp else nI tl) else nI tl), (p), (ks), (ss), (vs), (th1), (tN1), (tO1), (tpd1), (hm1), (sp1), (td1), (rl1), (kn1), (kp1), (on1), (wr1), (nd1), (br1), (wo1), ?_, rfl, ?_, ?_, ?_⟩
          · skip
            have hL : lnAll by_ tl (tl + 1) 0 (PS.mk 0 0 0 0 0 0 0 0 3 2 on wr nd br (fillI wo 0 6)) 0 = ((0, p), PS.mk th1 tN1 tO1 tpd1 hm1 sp1 td1 rl1 kn1 kp1 on1 wr1 nd1 br1 wo1, i) := by rw [h_39_1, show tl + 1 - i = 0 by omega]; rfl
            rw [hL]
          · skip
            have hL : lnAll by_ tl (tl + 1) 0 (PS.mk 0 0 0 0 0 0 0 0 3 2 on wr nd br (fillI wo 0 6)) 0 = ((0, p), PS.mk th1 tN1 tO1 tpd1 hm1 sp1 td1 rl1 kn1 kp1 on1 wr1 nd1 br1 wo1, i) := by rw [h_39_1, show tl + 1 - i = 0 by omega]; rfl
            rw [hL]; unfold fltL endF; rw [if_pos rfl, c_78]
          · skip
            have hL : lnAll by_ tl (tl + 1) 0 (PS.mk 0 0 0 0 0 0 0 0 3 2 on wr nd br (fillI wo 0 6)) 0 = ((0, p), PS.mk th1 tN1 tO1 tpd1 hm1 sp1 td1 rl1 kn1 kp1 on1 wr1 nd1 br1 wo1, i) := by rw [h_39_1, show tl + 1 - i = 0 by omega]; rfl
            intro q; rw [hL]; unfold plcL; rw [if_pos rfl]
            by_cases h1 : tN1 >>> (nI kn1 &&& 31) = 0
            · by_cases h2 : tO1 >>> (nI kp1 &&& 31) = 0
              · exact absurd (by rw [if_pos h1, if_pos h2]; exact c_78) q
              · rw [if_pos h1, if_neg h2]
            · rw [if_neg h1]
          · skip
            have hL : lnAll by_ tl (tl + 1) 0 (PS.mk 0 0 0 0 0 0 0 0 3 2 on wr nd br (fillI wo 0 6)) 0 = ((0, p), PS.mk th1 tN1 tO1 tpd1 hm1 sp1 td1 rl1 kn1 kp1 on1 wr1 nd1 br1 wo1, i) := by rw [h_39_1, show tl + 1 - i = 0 by omega]; rfl
            intro _; rw [hL]
      · skip
        refine v_aload_n (pc := 47) 1 dX3_tell_47 rfl rfl ?_
        refine v_callV (pc := 48) (rest := []) [0, 1] 0 lk_301 (c_X3_takeToken l E t0 b0 tb tl p ss xf xp ks vs th1 tN1 tO1 tpd1 by_ h_39_0 h_tl) dX3_tell_48 rfl rfl (Nat.le_of_ble_eq_true rfl) (by decide) rfl rfl rfl (by decide) rfl (Rt.len rfl) (Rt.go ?_)
        refine v_w (ws' := [(t0, .inr (3, [.ref b0, .int (nI tl), .int (if tkO by_ tl p = true then xf else 1), .int (if tkO by_ tl p = true then xp else nI (tkS by_ tl p)), .ref tb, .int (nI (tkN by_ tl p)), .int (tkK by_ tl p), .int (nI (tkS by_ tl p)), .int (tkV by_ tl p vs), .int (th1), .int (tN1), .int (tO1), .int (tpd1)])), (tb, .inl (E.2.1 0, 160, .inl (by_))), (b0, .inr (2, [.int (nI kn1), .int (nI kp1), .int (nI rl1), .int (hm1), .int (sp1), .int (td1), .int (0), .ref bo, .ref bw, .ref bn, .ref bb, .ref bv])), (bo, .inl (E.2.1 1, 8, .inl (on1))), (bw, .inl (E.2.1 1, 8, .inl (wr1))), (bn, .inl (E.2.1 1, 8, .inl (nd1))), (bb, .inl (E.2.1 1, 8, .inl (br1))), (bv, .inl (E.2.1 1, 6, .inl (wo1)))]) rfl ?_
        refine v_st (st' := [.int (if tkO by_ tl p = true then 1 else 0)]) rfl ?_
        refine v_ifB_eq (pc := 51) 74 dX3_tell_51 (by decide) (fun c_51 => ?_) (fun c_51 => ?_)
        · skip
          refine v_aload_n (pc := 74) 1 dX3_tell_74 rfl rfl ?_
          refine gf_180 (pc := 75) 0 dX3_tell_75 rfl rfl ?_
          refine v_if_ne (pc := 78) 85 dX3_tell_78 (by decide) (fun c_78 => ?_) (fun c_78 => ?_)
          · skip
            refine v_iload_n (pc := 85) 0 dX3_tell_85 rfl rfl ?_
            refine v_iret (pc := 86) dX3_tell_86 rfl ⟨rfl, rfl⟩ ⟨(if tkO by_ tl p = true then xf else 1), (if tkO by_ tl p = true then xp else nI (tkS by_ tl p)), (tkN by_ tl p), (tkK by_ tl p), (tkS by_ tl p), (tkV by_ tl p vs), (th1), (tN1), (tO1), (tpd1), (hm1), (sp1), (td1), (rl1), (kn1), (kp1), (on1), (wr1), (nd1), (br1), (wo1), ?_, rfl, ?_, ?_, ?_⟩
            · skip
              have hL : lnAll by_ tl (tl + 1) 0 (PS.mk 0 0 0 0 0 0 0 0 3 2 on wr nd br (fillI wo 0 6)) 0 = ((1, tkS by_ tl p), PS.mk th1 tN1 tO1 tpd1 hm1 sp1 td1 rl1 kn1 kp1 on1 wr1 nd1 br1 wo1, i) := by rw [h_39_1, show tl + 1 - i = (tl - i) + 1 by omega]; exact la_tok c_51
              rw [hL]
            · skip
              have hL : lnAll by_ tl (tl + 1) 0 (PS.mk 0 0 0 0 0 0 0 0 3 2 on wr nd br (fillI wo 0 6)) 0 = ((1, tkS by_ tl p), PS.mk th1 tN1 tO1 tpd1 hm1 sp1 td1 rl1 kn1 kp1 on1 wr1 nd1 br1 wo1, i) := by rw [h_39_1, show tl + 1 - i = (tl - i) + 1 by omega]; exact la_tok c_51
              rw [hL]; unfold fltL; rw [if_neg c_51, if_neg (show ¬ (1 : Int32) = 0 by decide)]
            · skip
              have hL : lnAll by_ tl (tl + 1) 0 (PS.mk 0 0 0 0 0 0 0 0 3 2 on wr nd br (fillI wo 0 6)) 0 = ((1, tkS by_ tl p), PS.mk th1 tN1 tO1 tpd1 hm1 sp1 td1 rl1 kn1 kp1 on1 wr1 nd1 br1 wo1, i) := by rw [h_39_1, show tl + 1 - i = (tl - i) + 1 by omega]; exact la_tok c_51
              intro _; rw [hL]; unfold plcL; rw [if_neg (show ¬ (1 : Int32) = 0 by decide), if_neg c_51]
            · skip
              intro q; exact absurd q c_78
          · skip
            refine v_aload_n (pc := 81) 1 dX3_tell_81 rfl rfl ?_
            refine v_callV (pc := 82) (rest := []) [0, 2] 0 lk_426 (c_X3_lookBehind l E t0 b0 tb tl (tkN by_ tl p) (tkS by_ tl p) (if tkO by_ tl p = true then xf else 1) (if tkO by_ tl p = true then xp else nI (tkS by_ tl p)) (tkK by_ tl p) (tkV by_ tl p vs) th1 tN1 tO1 tpd1 bo bw bn bb bv rl1 kn1 kp1 hm1 sp1 td1 0) dX3_tell_82 rfl rfl (Nat.le_of_ble_eq_true rfl) (by decide) rfl rfl rfl (by decide) rfl (Rt.len rfl) (Rt.go ?_)
            refine v_w (ws' := [(t0, .inr (3, [.ref b0, .int (nI tl), .int (if tN1 >>> ((nI kn1) &&& 31) = 0 then (if tO1 >>> ((nI kp1) &&& 31) = 0 then (if tkO by_ tl p = true then xf else 1) else 7) else 6), .int (if tN1 >>> ((nI kn1) &&& 31) = 0 then (if tO1 >>> ((nI kp1) &&& 31) = 0 then (if tkO by_ tl p = true then xp else nI (tkS by_ tl p)) else nI tl) else nI tl), .ref tb, .int (nI (tkN by_ tl p)), .int ((tkK by_ tl p)), .int (nI (tkS by_ tl p)), .int ((tkV by_ tl p vs)), .int (th1), .int (tN1), .int (tO1), .int (tpd1)])), (tb, .inl (E.2.1 0, 160, .inl (by_))), (b0, .inr (2, [.int (nI kn1), .int (nI kp1), .int (nI rl1), .int (hm1), .int (sp1), .int (td1), .int (0), .ref bo, .ref bw, .ref bn, .ref bb, .ref bv])), (bo, .inl (E.2.1 1, 8, .inl (on1))), (bw, .inl (E.2.1 1, 8, .inl (wr1))), (bn, .inl (E.2.1 1, 8, .inl (nd1))), (bb, .inl (E.2.1 1, 8, .inl (br1))), (bv, .inl (E.2.1 1, 6, .inl (wo1)))]) rfl ?_
            refine v_st (st' := []) rfl ?_
            refine v_iload_n (pc := 85) 0 dX3_tell_85 rfl rfl ?_
            refine v_iret (pc := 86) dX3_tell_86 rfl ⟨rfl, rfl⟩ ⟨(if tN1 >>> ((nI kn1) &&& 31) = 0 then (if tO1 >>> ((nI kp1) &&& 31) = 0 then (if tkO by_ tl p = true then xf else 1) else 7) else 6), (if tN1 >>> ((nI kn1) &&& 31) = 0 then (if tO1 >>> ((nI kp1) &&& 31) = 0 then (if tkO by_ tl p = true then xp else nI (tkS by_ tl p)) else nI tl) else nI tl), (tkN by_ tl p), ((tkK by_ tl p)), (tkS by_ tl p), ((tkV by_ tl p vs)), (th1), (tN1), (tO1), (tpd1), (hm1), (sp1), (td1), (rl1), (kn1), (kp1), (on1), (wr1), (nd1), (br1), (wo1), ?_, rfl, ?_, ?_, ?_⟩
            · skip
              exact absurd c_78 (by rw [if_neg c_51]; decide)
            · skip
              exact absurd c_78 (by rw [if_neg c_51]; decide)
            · skip
              exact absurd c_78 (by rw [if_neg c_51]; decide)
            · skip
              exact absurd c_78 (by rw [if_neg c_51]; decide)
        · skip
          refine v_aload_n (pc := 54) 1 dX3_tell_54 rfl rfl ?_
          refine gf_186 (pc := 55) 0 dX3_tell_55 rfl rfl ?_
          refine v_if_eq (pc := 58) 74 dX3_tell_58 (by decide) (fun c_58 => ?_) (fun c_58 => ?_)
          · skip
            refine v_aload_n (pc := 74) 1 dX3_tell_74 rfl rfl ?_
            refine gf_180 (pc := 75) 0 dX3_tell_75 rfl rfl ?_
            refine v_if_ne (pc := 78) 85 dX3_tell_78 (by decide) (fun c_78 => ?_) (fun c_78 => ?_)
            · skip
              refine v_iload_n (pc := 85) 0 dX3_tell_85 rfl rfl ?_
              refine v_iret (pc := 86) dX3_tell_86 rfl ⟨rfl, rfl⟩ ⟨(if tkO by_ tl p = true then xf else 1), (if tkO by_ tl p = true then xp else nI (tkS by_ tl p)), (tkN by_ tl p), (tkK by_ tl p), (tkS by_ tl p), (tkV by_ tl p vs), (th1), (tN1), (tO1), (tpd1), (hm1), (sp1), (td1), (rl1), (kn1), (kp1), (on1), (wr1), (nd1), (br1), (wo1), ?_, rfl, ?_, ?_, ?_⟩
              · skip
                exact absurd (by rw [if_pos c_51]; exact h_39_2) c_78
              · skip
                exact absurd (by rw [if_pos c_51]; exact h_39_2) c_78
              · skip
                exact absurd (by rw [if_pos c_51]; exact h_39_2) c_78
              · skip
                exact absurd (by rw [if_pos c_51]; exact h_39_2) c_78
            · skip
              refine v_aload_n (pc := 81) 1 dX3_tell_81 rfl rfl ?_
              refine v_callV (pc := 82) (rest := []) [0, 2] 0 lk_426 (c_X3_lookBehind l E t0 b0 tb tl (tkN by_ tl p) (tkS by_ tl p) (if tkO by_ tl p = true then xf else 1) (if tkO by_ tl p = true then xp else nI (tkS by_ tl p)) (tkK by_ tl p) (tkV by_ tl p vs) th1 tN1 tO1 tpd1 bo bw bn bb bv rl1 kn1 kp1 hm1 sp1 td1 0) dX3_tell_82 rfl rfl (Nat.le_of_ble_eq_true rfl) (by decide) rfl rfl rfl (by decide) rfl (Rt.len rfl) (Rt.go ?_)
              refine v_w (ws' := [(t0, .inr (3, [.ref b0, .int (nI tl), .int (if tN1 >>> ((nI kn1) &&& 31) = 0 then (if tO1 >>> ((nI kp1) &&& 31) = 0 then (if tkO by_ tl p = true then xf else 1) else 7) else 6), .int (if tN1 >>> ((nI kn1) &&& 31) = 0 then (if tO1 >>> ((nI kp1) &&& 31) = 0 then (if tkO by_ tl p = true then xp else nI (tkS by_ tl p)) else nI tl) else nI tl), .ref tb, .int (nI (tkN by_ tl p)), .int ((tkK by_ tl p)), .int (nI (tkS by_ tl p)), .int ((tkV by_ tl p vs)), .int (th1), .int (tN1), .int (tO1), .int (tpd1)])), (tb, .inl (E.2.1 0, 160, .inl (by_))), (b0, .inr (2, [.int (nI kn1), .int (nI kp1), .int (nI rl1), .int (hm1), .int (sp1), .int (td1), .int (0), .ref bo, .ref bw, .ref bn, .ref bb, .ref bv])), (bo, .inl (E.2.1 1, 8, .inl (on1))), (bw, .inl (E.2.1 1, 8, .inl (wr1))), (bn, .inl (E.2.1 1, 8, .inl (nd1))), (bb, .inl (E.2.1 1, 8, .inl (br1))), (bv, .inl (E.2.1 1, 6, .inl (wo1)))]) rfl ?_
              refine v_st (st' := []) rfl ?_
              refine v_iload_n (pc := 85) 0 dX3_tell_85 rfl rfl ?_
              refine v_iret (pc := 86) dX3_tell_86 rfl ⟨rfl, rfl⟩ ⟨(if tN1 >>> ((nI kn1) &&& 31) = 0 then (if tO1 >>> ((nI kp1) &&& 31) = 0 then (if tkO by_ tl p = true then xf else 1) else 7) else 6), (if tN1 >>> ((nI kn1) &&& 31) = 0 then (if tO1 >>> ((nI kp1) &&& 31) = 0 then (if tkO by_ tl p = true then xp else nI (tkS by_ tl p)) else nI tl) else nI tl), (tkN by_ tl p), ((tkK by_ tl p)), (tkS by_ tl p), ((tkV by_ tl p vs)), (th1), (tN1), (tO1), (tpd1), (hm1), (sp1), (td1), (rl1), (kn1), (kp1), (on1), (wr1), (nd1), (br1), (wo1), ?_, rfl, ?_, ?_, ?_⟩
              · skip
                have hL : lnAll by_ tl (tl + 1) 0 (PS.mk 0 0 0 0 0 0 0 0 3 2 on wr nd br (fillI wo 0 6)) 0 = ((0, p), PS.mk th1 tN1 tO1 tpd1 hm1 sp1 td1 rl1 kn1 kp1 on1 wr1 nd1 br1 wo1, i) := by rw [h_39_1, show tl + 1 - i = (tl - i) + 1 by omega]; exact la_end c_51 c_58
                rw [hL]
              · skip
                have hL : lnAll by_ tl (tl + 1) 0 (PS.mk 0 0 0 0 0 0 0 0 3 2 on wr nd br (fillI wo 0 6)) 0 = ((0, p), PS.mk th1 tN1 tO1 tpd1 hm1 sp1 td1 rl1 kn1 kp1 on1 wr1 nd1 br1 wo1, i) := by rw [h_39_1, show tl + 1 - i = (tl - i) + 1 by omega]; exact la_end c_51 c_58
                rw [hL]; unfold fltL endF; rw [if_pos rfl, c_78]
              · skip
                have hL : lnAll by_ tl (tl + 1) 0 (PS.mk 0 0 0 0 0 0 0 0 3 2 on wr nd br (fillI wo 0 6)) 0 = ((0, p), PS.mk th1 tN1 tO1 tpd1 hm1 sp1 td1 rl1 kn1 kp1 on1 wr1 nd1 br1 wo1, i) := by rw [h_39_1, show tl + 1 - i = (tl - i) + 1 by omega]; exact la_end c_51 c_58
                intro q; rw [hL]; unfold plcL; rw [if_pos rfl]
                by_cases h1 : tN1 >>> (nI kn1 &&& 31) = 0
                · by_cases h2 : tO1 >>> (nI kp1 &&& 31) = 0
                  · exact absurd (by rw [if_pos h1, if_pos h2]; exact c_78) q
                  · rw [if_pos h1, if_neg h2]
                · rw [if_neg h1]
              · skip
                have hL : lnAll by_ tl (tl + 1) 0 (PS.mk 0 0 0 0 0 0 0 0 3 2 on wr nd br (fillI wo 0 6)) 0 = ((0, p), PS.mk th1 tN1 tO1 tpd1 hm1 sp1 td1 rl1 kn1 kp1 on1 wr1 nd1 br1 wo1, i) := by rw [h_39_1, show tl + 1 - i = (tl - i) + 1 by omega]; exact la_end c_51 c_58
                intro _; rw [hL]
          · skip
            refine v_aload_n (pc := 61) 1 dX3_tell_61 rfl rfl ?_
            refine v_callV (pc := 62) (rest := []) [0, 1, 2, 3, 4, 5, 6, 7] 0 lk_315 (c_X3_takeLine l E t0 b0 tb tl (tkN by_ tl p) (tkS by_ tl p) (if tkO by_ tl p = true then xf else 1) (if tkO by_ tl p = true then xp else nI (tkS by_ tl p)) (tkK by_ tl p) (tkV by_ tl p vs) th1 tN1 tO1 tpd1 by_ bo bw bn bb bv rl1 kn1 kp1 hm1 sp1 td1 0 on1 wr1 nd1 br1 wo1 (tkN_b h_39_0).2 h_tl (tkN_b h_39_0).1 h_39_4) dX3_tell_62 rfl rfl (Nat.le_of_ble_eq_true rfl) (by decide) rfl rfl rfl (by decide) rfl (by rintro _ _ ⟨_, _, _, _, _, _, _, _, _, _, _, _, _, _, _, _, _, _, _, _, _, _, rfl, _⟩; rfl) ?_
            rintro _ _ ⟨tf_62, tp_62, tx_62, tk_62, ts_62, tv_62, th_62, tN_62, tO_62, tpd_62, hm_62, sp_62, td_62, rl_62, kn_62, kp_62, on_62, wr_62, nd_62, br_62, wo_62, rfl, rfl, hf62_0, hf62_1, hf62_2⟩
            refine v_w (ws' := [(t0, .inr (3, [.ref b0, .int (nI tl), .int (tf_62), .int (tp_62), .ref tb, .int (nI tx_62), .int (tk_62), .int (nI ts_62), .int (tv_62), .int (th_62), .int (tN_62), .int (tO_62), .int (tpd_62)])), (tb, .inl (E.2.1 0, 160, .inl (by_))), (b0, .inr (2, [.int (nI kn_62), .int (nI kp_62), .int (nI rl_62), .int (hm_62), .int (sp_62), .int (td_62), .int (0), .ref bo, .ref bw, .ref bn, .ref bb, .ref bv])), (bo, .inl (E.2.1 1, 8, .inl (on_62))), (bw, .inl (E.2.1 1, 8, .inl (wr_62))), (bn, .inl (E.2.1 1, 8, .inl (nd_62))), (bb, .inl (E.2.1 1, 8, .inl (br_62))), (bv, .inl (E.2.1 1, 6, .inl (wo_62)))]) rfl ?_
            refine v_st (st' := [.int (if (lnC by_ tl (tkK by_ tl p) (tkS by_ tl p) (tkN by_ tl p) (PS.mk th1 tN1 tO1 tpd1 hm1 sp1 td1 rl1 kn1 kp1 on1 wr1 nd1 br1 wo1)).1 = 0 then 1 else 0)]) rfl ?_
            refine v_ifB_eq (pc := 65) 74 dX3_tell_65 (by decide) (fun c_65 => ?_) (fun c_65 => ?_)
            · skip
              refine v_aload_n (pc := 74) 1 dX3_tell_74 rfl rfl ?_
              refine gf_180 (pc := 75) 0 dX3_tell_75 rfl rfl ?_
              refine v_if_ne (pc := 78) 85 dX3_tell_78 (by decide) (fun c_78 => ?_) (fun c_78 => ?_)
              · skip
                refine v_iload_n (pc := 85) 0 dX3_tell_85 rfl rfl ?_
                refine v_iret (pc := 86) dX3_tell_86 rfl ⟨rfl, rfl⟩ ⟨(tf_62), (tp_62), (tx_62), (tk_62), (ts_62), (tv_62), (th_62), (tN_62), (tO_62), (tpd_62), (hm_62), (sp_62), (td_62), (rl_62), (kn_62), (kp_62), (on_62), (wr_62), (nd_62), (br_62), (wo_62), ?_, rfl, ?_, ?_, ?_⟩
                · skip
                  have hL : lnAll by_ tl (tl + 1) 0 (PS.mk 0 0 0 0 0 0 0 0 3 2 on wr nd br (fillI wo 0 6)) 0 = (lnC by_ tl (tkK by_ tl p) (tkS by_ tl p) (tkN by_ tl p) (PS.mk th1 tN1 tO1 tpd1 hm1 sp1 td1 rl1 kn1 kp1 on1 wr1 nd1 br1 wo1), PS.mk th1 tN1 tO1 tpd1 hm1 sp1 td1 rl1 kn1 kp1 on1 wr1 nd1 br1 wo1, i) := by rw [h_39_1, show tl + 1 - i = (tl - i) + 1 by omega]; exact la_bad c_51 c_58 c_65
                  rw [hL]
                · skip
                  have hL : lnAll by_ tl (tl + 1) 0 (PS.mk 0 0 0 0 0 0 0 0 3 2 on wr nd br (fillI wo 0 6)) 0 = (lnC by_ tl (tkK by_ tl p) (tkS by_ tl p) (tkN by_ tl p) (PS.mk th1 tN1 tO1 tpd1 hm1 sp1 td1 rl1 kn1 kp1 on1 wr1 nd1 br1 wo1), PS.mk th1 tN1 tO1 tpd1 hm1 sp1 td1 rl1 kn1 kp1 on1 wr1 nd1 br1 wo1, i) := by rw [h_39_1, show tl + 1 - i = (tl - i) + 1 by omega]; exact la_bad c_51 c_58 c_65
                  rw [hL]; unfold fltL; rw [if_neg c_65]; exact (hf62_1 c_65).1
                · skip
                  have hL : lnAll by_ tl (tl + 1) 0 (PS.mk 0 0 0 0 0 0 0 0 3 2 on wr nd br (fillI wo 0 6)) 0 = (lnC by_ tl (tkK by_ tl p) (tkS by_ tl p) (tkN by_ tl p) (PS.mk th1 tN1 tO1 tpd1 hm1 sp1 td1 rl1 kn1 kp1 on1 wr1 nd1 br1 wo1), PS.mk th1 tN1 tO1 tpd1 hm1 sp1 td1 rl1 kn1 kp1 on1 wr1 nd1 br1 wo1, i) := by rw [h_39_1, show tl + 1 - i = (tl - i) + 1 by omega]; exact la_bad c_51 c_58 c_65
                  intro _; rw [hL]; unfold plcL; rw [if_neg c_65]; exact (hf62_1 c_65).2
                · skip
                  intro q; exact absurd q c_78
              · skip
                refine v_aload_n (pc := 81) 1 dX3_tell_81 rfl rfl ?_
                refine v_callV (pc := 82) (rest := []) [0, 2] 0 lk_426 (c_X3_lookBehind l E t0 b0 tb tl tx_62 ts_62 tf_62 tp_62 tk_62 tv_62 th_62 tN_62 tO_62 tpd_62 bo bw bn bb bv rl_62 kn_62 kp_62 hm_62 sp_62 td_62 0) dX3_tell_82 rfl rfl (Nat.le_of_ble_eq_true rfl) (by decide) rfl rfl rfl (by decide) rfl (Rt.len rfl) (Rt.go ?_)
                refine v_w (ws' := [(t0, .inr (3, [.ref b0, .int (nI tl), .int (if tN_62 >>> ((nI kn_62) &&& 31) = 0 then (if tO_62 >>> ((nI kp_62) &&& 31) = 0 then tf_62 else 7) else 6), .int (if tN_62 >>> ((nI kn_62) &&& 31) = 0 then (if tO_62 >>> ((nI kp_62) &&& 31) = 0 then tp_62 else nI tl) else nI tl), .ref tb, .int (nI tx_62), .int (tk_62), .int (nI ts_62), .int (tv_62), .int (th_62), .int (tN_62), .int (tO_62), .int (tpd_62)])), (tb, .inl (E.2.1 0, 160, .inl (by_))), (b0, .inr (2, [.int (nI kn_62), .int (nI kp_62), .int (nI rl_62), .int (hm_62), .int (sp_62), .int (td_62), .int (0), .ref bo, .ref bw, .ref bn, .ref bb, .ref bv])), (bo, .inl (E.2.1 1, 8, .inl (on_62))), (bw, .inl (E.2.1 1, 8, .inl (wr_62))), (bn, .inl (E.2.1 1, 8, .inl (nd_62))), (bb, .inl (E.2.1 1, 8, .inl (br_62))), (bv, .inl (E.2.1 1, 6, .inl (wo_62)))]) rfl ?_
                refine v_st (st' := []) rfl ?_
                refine v_iload_n (pc := 85) 0 dX3_tell_85 rfl rfl ?_
                refine v_iret (pc := 86) dX3_tell_86 rfl ⟨rfl, rfl⟩ ⟨(if tN_62 >>> ((nI kn_62) &&& 31) = 0 then (if tO_62 >>> ((nI kp_62) &&& 31) = 0 then tf_62 else 7) else 6), (if tN_62 >>> ((nI kn_62) &&& 31) = 0 then (if tO_62 >>> ((nI kp_62) &&& 31) = 0 then tp_62 else nI tl) else nI tl), (tx_62), (tk_62), (ts_62), (tv_62), (th_62), (tN_62), (tO_62), (tpd_62), (hm_62), (sp_62), (td_62), (rl_62), (kn_62), (kp_62), (on_62), (wr_62), (nd_62), (br_62), (wo_62), ?_, rfl, ?_, ?_, ?_⟩
                · skip
                  exact absurd c_78 (by rw [(hf62_1 c_65).1]; exact c_65)
                · skip
                  exact absurd c_78 (by rw [(hf62_1 c_65).1]; exact c_65)
                · skip
                  exact absurd c_78 (by rw [(hf62_1 c_65).1]; exact c_65)
                · skip
                  exact absurd c_78 (by rw [(hf62_1 c_65).1]; exact c_65)
            · skip
              refine v_iinc (pc := 68) (v := nI (i + 1)) (lv' := [(1, .int (nI (i + 1))), (0, .ref t0)]) 0 dX3_tell_68 rfl (nI_inc (i) 1) (by decide) rfl ?_
              refine v_goto (pc := 71) 39 dX3_tell_71 (by decide) ?_
              refine v_lv (lv' := [(1, .int (nI (i + 1))), (0, .ref t0)]) [0, 1] rfl ?_
              refine ih_39 (i + 1) tx_62 tf_62 tp_62 tk_62 ts_62 tv_62 th_62 tN_62 tO_62 tpd_62 hm_62 sp_62 td_62 rl_62 kn_62 kp_62 on_62 wr_62 nd_62 br_62 wo_62 (by omega) ?_ ?_ ?_ ?_ ?_
              · exact hf62_2
              · rw [h_39_1, show tl + 1 - i = (tl - i) + 1 by omega, la_go c_51 c_58 c_65, show tl + 1 - (i + 1) = tl - i by omega, (hf62_0 c_65).2.2, (hf62_0 c_65).2.1]
              · rw [(hf62_0 c_65).1, if_pos c_51]; exact h_39_2
              · omega
              · exact Nat.le_trans (Nat.le_of_eq (congrArg PS.rl (hf62_0 c_65).2.2)) (lnP_rl (s := PS.mk th1 tN1 tO1 tpd1 hm1 sp1 td1 rl1 kn1 kp1 on1 wr1 nd1 br1 wo1) h_39_4 c_65)
  refine v_lv (lv' := [(1, .int (nI 0)), (0, .ref t0)]) [0, 1] rfl ?_
  refine loop_39 ((tl + 1 - 0) + 1) 0 0 0 tp tk sa tv 0 0 0 0 0 0 0 0 3 2 on wr nd br (fillI wo 0 6) (Nat.lt_succ_self _) ?_ ?_ ?_ ?_ ?_
  · omega
  · rw [Nat.sub_zero]
  · rfl
  · omega
  · omega
