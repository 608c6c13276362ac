/-! all lines -/
abbrev PS := Int32 × Int32 × Int32 × Int32 × Int32 × Int32 × Int32 × Nat × Nat × Nat × (Nat → Int32) × (Nat → Int32) × (Nat → Int32) × (Nat → Int32) × (Nat → Int32)
abbrev PS.mk (th : Int32) (tN : Int32) (tO : Int32) (tpd : Int32) (hm : Int32) (sp : Int32) (td : Int32) (rl : Nat) (kn : Nat) (kp : Nat) (on : (Nat → Int32)) (wr : (Nat → Int32)) (nd : (Nat → Int32)) (br : (Nat → Int32)) (wo : (Nat → Int32)) : PS := (th, tN, tO, tpd, hm, sp, td, rl, kn, kp, on, wr, nd, br, wo)
abbrev PS.th (s : PS) : Int32 := s.1
abbrev PS.tN (s : PS) : Int32 := s.2.1
abbrev PS.tO (s : PS) : Int32 := s.2.2.1
abbrev PS.tpd (s : PS) : Int32 := s.2.2.2.1
abbrev PS.hm (s : PS) : Int32 := s.2.2.2.2.1
abbrev PS.sp (s : PS) : Int32 := s.2.2.2.2.2.1
abbrev PS.td (s : PS) : Int32 := s.2.2.2.2.2.2.1
abbrev PS.rl (s : PS) : Nat := s.2.2.2.2.2.2.2.1
abbrev PS.kn (s : PS) : Nat := s.2.2.2.2.2.2.2.2.1
abbrev PS.kp (s : PS) : Nat := s.2.2.2.2.2.2.2.2.2.1
abbrev PS.on (s : PS) : Nat → Int32 := s.2.2.2.2.2.2.2.2.2.2.1
abbrev PS.wr (s : PS) : Nat → Int32 := s.2.2.2.2.2.2.2.2.2.2.2.1
abbrev PS.nd (s : PS) : Nat → Int32 := s.2.2.2.2.2.2.2.2.2.2.2.2.1
abbrev PS.br (s : PS) : Nat → Int32 := s.2.2.2.2.2.2.2.2.2.2.2.2.2.1
abbrev PS.wo (s : PS) : Nat → Int32 := s.2.2.2.2.2.2.2.2.2.2.2.2.2.2
def lnC (b : Nat → Int32) (n : Nat) (tk : Int32) (sa nx : Nat) (s : PS) : Int32 × Nat :=
  if nmB tk b sa nx 0 = true then lnStreet b n nx sa s.th
  else if nmB tk b sa nx 1 = true then lnRule b n nx sa s.rl s.tN
  else if nmB tk b sa nx 3 = true then lnWorth b n nx s.tpd
  else if nmB tk b sa nx 4 = true then lnWorth b n nx s.tpd
  else if nmB tk b sa nx 5 = true then lnHome b n nx s.hm
  else if nmB tk b sa nx 6 = true then lnStop b n nx s.sp
  else if nmB tk b sa nx 7 = true then lnStop b n nx s.td
  else (2, sa)
def sb (x v : Int32) : Int32 := x ||| ((1 : Int32) <<< (v &&& 31))
def lnP (b : Nat → Int32) (n : Nat) (tk : Int32) (sa nx : Nat) (s : PS) : PS :=
  if nmB tk b sa nx 0 = true then PS.mk (1) s.tN s.tO s.tpd s.hm s.sp s.td s.rl ((tkV b n nx 0).toNatClampNeg) ((tkV b n (tkN b n nx) 0).toNatClampNeg) s.on s.wr s.nd s.br s.wo
  else if nmB tk b sa nx 1 = true then PS.mk s.th ((rlR b n nx s.tN).2.2.2) (sb s.tO (tkV b n nx 0)) s.tpd s.hm s.sp s.td (s.rl + 1) s.kn s.kp (upd s.on s.rl (tkV b n nx 0)) (upd s.wr s.rl (tkV b n (tkN b n nx) 0)) (upd s.nd s.rl (rlR b n nx s.tN).2.1) (upd s.br s.rl (rlR b n nx s.tN).2.2.1) s.wo
  else if nmB tk b sa nx 3 = true then PS.mk s.th (sb s.tN (tkV b n nx 0)) s.tO (sb s.tpd (tkV b n nx 0)) s.hm s.sp s.td s.rl s.kn s.kp s.on s.wr s.nd s.br (upd s.wo (tkV b n nx 0).toNatClampNeg (1 * tkV b n (tkN b n nx) 0))
  else if nmB tk b sa nx 4 = true then PS.mk s.th (sb s.tN (tkV b n nx 0)) s.tO (sb s.tpd (tkV b n nx 0)) s.hm s.sp s.td s.rl s.kn s.kp s.on s.wr s.nd s.br (upd s.wo (tkV b n nx 0).toNatClampNeg (-1 * tkV b n (tkN b n nx) 0))
  else if nmB tk b sa nx 5 = true then PS.mk s.th s.tN (sb s.tO (tkV b n nx 0)) s.tpd (sb s.hm (tkV b n nx 0)) s.sp s.td s.rl s.kn s.kp s.on s.wr s.nd s.br s.wo
  else if nmB tk b sa nx 6 = true then PS.mk s.th (sb s.tN (tkV b n nx 0)) s.tO s.tpd s.hm (sb s.sp (tkV b n nx 0)) s.td s.rl s.kn s.kp s.on s.wr s.nd s.br s.wo
  else if nmB tk b sa nx 7 = true then PS.mk s.th (sb s.tN (tkV b n nx 0)) s.tO s.tpd s.hm s.sp (sb s.td (tkV b n nx 0)) s.rl s.kn s.kp s.on s.wr s.nd s.br s.wo
  else s
theorem lnP_rl {b : Nat → Int32} {n : Nat} {tk : Int32} {sa nx : Nat} {s : PS} (h : s.rl ≤ 8) (hc : (lnC b n tk sa nx s).1 = 0) : (lnP b n tk sa nx s).rl ≤ 8 := by
  unfold lnC at hc
  unfold lnP
  split
  · exact h
  · rename_i h0
    rw [if_neg h0] at hc
    split
    · rename_i h1
      rw [if_pos h1] at hc
      unfold lnRule at hc
      split at hc
      · exact Nat.succ_le_of_lt (by assumption)
      · exact absurd hc (show ¬ (5 : Int32) = 0 by decide)
    · repeat' split
      all_goals exact h
def lnAll (b : Nat → Int32) (n : Nat) : Nat → Nat → PS → Nat → (Int32 × Nat) × PS × Nat
  | 0, p, s, c => ((0, p), s, c)
  | k + 1, p, s, c =>
    if tkO b n p = true then
      if tkK b n p = 0 then ((0, p), s, c)
      else if (lnC b n (tkK b n p) (tkS b n p) (tkN b n p) s).1 = 0 then lnAll b n k (lnC b n (tkK b n p) (tkS b n p) (tkN b n p) s).2 (lnP b n (tkK b n p) (tkS b n p) (tkN b n p) s) (c + 1)
      else (lnC b n (tkK b n p) (tkS b n p) (tkN b n p) s, s, c)
    else ((1, tkS b n p), s, c)
section LA
variable {b : Nat → Int32} {n k p c : Nat} {s : PS}
theorem la_tok (h : ¬ tkO b n p = true) : lnAll b n (k + 1) p s c = ((1, tkS b n p), s, c) := by rw [lnAll, if_neg h]
theorem la_end (h : tkO b n p = true) (h2 : tkK b n p = 0) : lnAll b n (k + 1) p s c = ((0, p), s, c) := by rw [lnAll, if_pos h, if_pos h2]
theorem la_bad (h : tkO b n p = true) (h2 : ¬ tkK b n p = 0) (h3 : ¬ (lnC b n (tkK b n p) (tkS b n p) (tkN b n p) s).1 = 0) : lnAll b n (k + 1) p s c = (lnC b n (tkK b n p) (tkS b n p) (tkN b n p) s, s, c) := by rw [lnAll, if_pos h, if_neg h2, if_neg h3]
theorem la_go (h : tkO b n p = true) (h2 : ¬ tkK b n p = 0) (h3 : (lnC b n (tkK b n p) (tkS b n p) (tkN b n p) s).1 = 0) : lnAll b n (k + 1) p s c = lnAll b n k (lnC b n (tkK b n p) (tkS b n p) (tkN b n p) s).2 (lnP b n (tkK b n p) (tkS b n p) (tkN b n p) s) (c + 1) := by rw [lnAll, if_pos h, if_neg h2, if_pos h3]
end LA
def endF (s : PS) : Int32 := if s.tN >>> (nI s.kn &&& 31) = 0 then (if s.tO >>> (nI s.kp &&& 31) = 0 then 0 else 7) else 6
def fltL (r : (Int32 × Nat) × PS × Nat) : Int32 := if r.1.1 = 0 then endF r.2.1 else r.1.1
def plcL (n : Nat) (r : (Int32 × Nat) × PS × Nat) : Nat := if r.1.1 = 0 then n else r.1.2
theorem c_X3_takeLine (l : Launch) (E : VE) (t0 : Nat) (b0 : Nat) (tb : Nat) (tl : Nat) (nx : Nat) (sa : Nat) (tf : Int32) (tp : Int32) (tk : Int32) (tv : Int32) (th : Int32) (tN : Int32) (tO : Int32) (tpd : Int32) (by_ : Nat → Int32) (bo : Nat) (bw : Nat) (bn : Nat) (bb : Nat) (bv : Nat) (rl : Nat) (kn : Nat) (kp : Nat) (hm : Int32) (sp : Int32) (td : Int32) (dt : Int32) (on : Nat → Int32) (wr : Nat → Int32) (nd : Nat → Int32) (br : Nat → Int32) (wo : Nat → Int32) (h_nx : nx ≤ tl) (h_tl : tl ≤ 160) (h_s : sa ≤ nx) (h_rl8 : rl ≤ 8) : Ct l E yX3_takeLine cX3_takeLine 1 (Option.some FieldType.boolean) 6 133 0 0 [.ref t0] [(t0, .inr (3, [.ref b0, .int (nI tl), .int (tf), .int (tp), .ref tb, .int (nI nx), .int (tk), .int (nI sa), .int (tv), .int (th), .int (tN), .int (tO), .int (tpd)])), (tb, .inl (E.2.1 0, 160, .inl (by_))), (b0, .inr (2, [.int (nI kn), .int (nI kp), .int (nI rl), .int (hm), .int (sp), .int (td), .int (dt), .ref bo, .ref bw, .ref bn, .ref bb, .ref bv])), (bo, .inl (E.2.1 1, 8, .inl (on))), (bw, .inl (E.2.1 1, 8, .inl (wr))), (bn, .inl (E.2.1 1, 8, .inl (nd))), (bb, .inl (E.2.1 1, 8, .inl (br))), (bv, .inl (E.2.1 1, 6, .inl (wo)))] (fun v wd => ∃ (tf_ : Int32) (tp_ : Int32) (tx_ : Nat) (tk_ : Int32) (ts_ : Nat) (tv_ : Int32) (th_ : Int32) (tN_ : Int32) (tO_ : Int32) (tpd_ : Int32) (hm_ : Int32) (sp_ : Int32) (td_ : Int32) (rl_ : Nat) (kn_ : Nat) (kp_ : Nat) (on_ : Nat → Int32) (wr_ : Nat → Int32) (nd_ : Nat → Int32) (br_ : Nat → Int32) (wo_ : Nat → Int32), v = some (.int (if (lnC by_ tl tk sa nx (PS.mk th tN tO tpd hm sp td rl kn kp on wr nd br wo)).1 = 0 then 1 else 0)) ∧ wd = [(t0, .inr (3, [.ref b0, .int (nI tl), .int (tf_), .int (tp_), .ref tb, .int (nI tx_), .int (tk_), .int (nI ts_), .int (tv_), .int (th_), .int (tN_), .int (tO_), .int (tpd_)])), (tb, .inl (E.2.1 0, 160, .inl (by_))), (b0, .inr (2, [.int (nI kn_), .int (nI kp_), .int (nI rl_), .int (hm_), .int (sp_), .int (td_), .int (dt), .ref bo, .ref bw, .ref bn, .ref bb, .ref bv])), (bo, .inl (E.2.1 1, 8, .inl (on_))), (bw, .inl (E.2.1 1, 8, .inl (wr_))), (bn, .inl (E.2.1 1, 8, .inl (nd_))), (bb, .inl (E.2.1 1, 8, .inl (br_))), (bv, .inl (E.2.1 1, 6, .inl (wo_)))] ∧ ((lnC by_ tl tk sa nx (PS.mk th tN tO tpd hm sp td rl kn kp on wr nd br wo)).1 = 0 → tf_ = tf ∧ tx_ = (lnC by_ tl tk sa nx (PS.mk th tN tO tpd hm sp td rl kn kp on wr nd br wo)).2 ∧ PS.mk th_ tN_ tO_ tpd_ hm_ sp_ td_ rl_ kn_ kp_ on_ wr_ nd_ br_ wo_ = lnP by_ tl tk sa nx (PS.mk th tN tO tpd hm sp td rl kn kp on wr nd br wo)) ∧ (¬ (lnC by_ tl tk sa nx (PS.mk th tN tO tpd hm sp td rl kn kp on wr nd br wo)).1 = 0 → tf_ = (lnC by_ tl tk sa nx (PS.mk th tN tO tpd hm sp td rl kn kp on wr nd br wo)).1 ∧ tp_ = nI (lnC by_ tl tk sa nx (PS.mk th tN tO tpd hm sp td rl kn kp on wr nd br wo)).2) ∧ (tx_ ≤ tl)) := by
  refine Ct.of (own := RX3) (nm := "takeLine") (lv := [(0, .ref t0)]) (by decide) rfl rfl (Nat.le_of_ble_eq_true rfl) rfl ?_
  refine v_aload_n (pc := 0) 0 dX3_takeLine_0 rfl rfl ?_
  refine v_ldcS (pc := 1) 0 (by decide) rfl rfl dX3_takeLine_1 ?_
  refine v_callV (pc := 3) (rest := []) [0, 1] 0 lk_320 (c_X3_isName l E t0 b0 tb tl nx sa tf tp tk tv th tN tO tpd by_ 0 (by decide) h_s h_nx h_tl) dX3_takeLine_3 rfl rfl (Nat.le_of_ble_eq_true rfl) (by decide) rfl rfl rfl (by decide) rfl (Rt.len rfl) (Rt.go ?_)
  refine v_w (ws' := [(t0, .inr (3, [.ref b0, .int (nI tl), .int (tf), .int (tp), .ref tb, .int (nI nx), .int (tk), .int (nI sa), .int (tv), .int (th), .int (tN), .int (tO), .int (tpd)])), (tb, .inl (E.2.1 0, 160, .inl (by_))), (b0, .inr (2, [.int (nI kn), .int (nI kp), .int (nI rl), .int (hm), .int (sp), .int (td), .int (dt), .ref bo, .ref bw, .ref bn, .ref bb, .ref bv])), (bo, .inl (E.2.1 1, 8, .inl (on))), (bw, .inl (E.2.1 1, 8, .inl (wr))), (bn, .inl (E.2.1 1, 8, .inl (nd))), (bb, .inl (E.2.1 1, 8, .inl (br))), (bv, .inl (E.2.1 1, 6, .inl (wo)))]) rfl ?_
  refine v_st (st' := [.int (if nmB tk by_ sa nx 0 = true then 1 else 0)]) rfl ?_
  refine v_ifB_eq (pc := 6) 14 dX3_takeLine_6 (by decide) (fun c_6 => ?_) (fun c_6 => ?_)
  · skip
    refine v_aload_n (pc := 14) 0 dX3_takeLine_14 rfl rfl ?_
    refine v_ldcS (pc := 15) 1 (by decide) rfl rfl dX3_takeLine_15 ?_
    refine v_callV (pc := 17) (rest := []) [0, 1] 0 lk_320 (c_X3_isName l E t0 b0 tb tl nx sa tf tp tk tv th tN tO tpd by_ 1 (by decide) h_s h_nx h_tl) dX3_takeLine_17 rfl rfl (Nat.le_of_ble_eq_true rfl) (by decide) rfl rfl rfl (by decide) rfl (Rt.len rfl) (Rt.go ?_)
    refine v_w (ws' := [(t0, .inr (3, [.ref b0, .int (nI tl), .int (tf), .int (tp), .ref tb, .int (nI nx), .int (tk), .int (nI sa), .int (tv), .int (th), .int (tN), .int (tO), .int (tpd)])), (tb, .inl (E.2.1 0, 160, .inl (by_))), (b0, .inr (2, [.int (nI kn), .int (nI kp), .int (nI rl), .int (hm), .int (sp), .int (td), .int (dt), .ref bo, .ref bw, .ref bn, .ref bb, .ref bv])), (bo, .inl (E.2.1 1, 8, .inl (on))), (bw, .inl (E.2.1 1, 8, .inl (wr))), (bn, .inl (E.2.1 1, 8, .inl (nd))), (bb, .inl (E.2.1 1, 8, .inl (br))), (bv, .inl (E.2.1 1, 6, .inl (wo)))]) rfl ?_
    refine v_st (st' := [.int (if nmB tk by_ sa nx 1 = true then 1 else 0)]) rfl ?_
    refine v_ifB_eq (pc := 20) 28 dX3_takeLine_20 (by decide) (fun c_20 => ?_) (fun c_20 => ?_)
    · skip
      refine v_aload_n (pc := 28) 0 dX3_takeLine_28 rfl rfl ?_
      refine v_ldcS (pc := 29) 3 (by decide) rfl rfl dX3_takeLine_29 ?_
      refine v_callV (pc := 31) (rest := []) [0, 1] 0 lk_320 (c_X3_isName l E t0 b0 tb tl nx sa tf tp tk tv th tN tO tpd by_ 3 (by decide) h_s h_nx h_tl) dX3_takeLine_31 rfl rfl (Nat.le_of_ble_eq_true rfl) (by decide) rfl rfl rfl (by decide) rfl (Rt.len rfl) (Rt.go ?_)
      refine v_w (ws' := [(t0, .inr (3, [.ref b0, .int (nI tl), .int (tf), .int (tp), .ref tb, .int (nI nx), .int (tk), .int (nI sa), .int (tv), .int (th), .int (tN), .int (tO), .int (tpd)])), (tb, .inl (E.2.1 0, 160, .inl (by_))), (b0, .inr (2, [.int (nI kn), .int (nI kp), .int (nI rl), .int (hm), .int (sp), .int (td), .int (dt), .ref bo, .ref bw, .ref bn, .ref bb, .ref bv])), (bo, .inl (E.2.1 1, 8, .inl (on))), (bw, .inl (E.2.1 1, 8, .inl (wr))), (bn, .inl (E.2.1 1, 8, .inl (nd))), (bb, .inl (E.2.1 1, 8, .inl (br))), (bv, .inl (E.2.1 1, 6, .inl (wo)))]) rfl ?_
      refine v_st (st' := [.int (if nmB tk by_ sa nx 3 = true then 1 else 0)]) rfl ?_
      refine v_ifB_eq (pc := 34) 43 dX3_takeLine_34 (by decide) (fun c_34 => ?_) (fun c_34 => ?_)
      · skip
        refine v_aload_n (pc := 43) 0 dX3_takeLine_43 rfl rfl ?_
        refine v_ldcS (pc := 44) 4 (by decide) rfl rfl dX3_takeLine_44 ?_
        refine v_callV (pc := 46) (rest := []) [0, 1] 0 lk_320 (c_X3_isName l E t0 b0 tb tl nx sa tf tp tk tv th tN tO tpd by_ 4 (by decide) h_s h_nx h_tl) dX3_takeLine_46 rfl rfl (Nat.le_of_ble_eq_true rfl) (by decide) rfl rfl rfl (by decide) rfl (Rt.len rfl) (Rt.go ?_)
        refine v_w (ws' := [(t0, .inr (3, [.ref b0, .int (nI tl), .int (tf), .int (tp), .ref tb, .int (nI nx), .int (tk), .int (nI sa), .int (tv), .int (th), .int (tN), .int (tO), .int (tpd)])), (tb, .inl (E.2.1 0, 160, .inl (by_))), (b0, .inr (2, [.int (nI kn), .int (nI kp), .int (nI rl), .int (hm), .int (sp), .int (td), .int (dt), .ref bo, .ref bw, .ref bn, .ref bb, .ref bv])), (bo, .inl (E.2.1 1, 8, .inl (on))), (bw, .inl (E.2.1 1, 8, .inl (wr))), (bn, .inl (E.2.1 1, 8, .inl (nd))), (bb, .inl (E.2.1 1, 8, .inl (br))), (bv, .inl (E.2.1 1, 6, .inl (wo)))]) rfl ?_
        refine v_st (st' := [.int (if nmB tk by_ sa nx 4 = true then 1 else 0)]) rfl ?_
        refine v_ifB_eq (pc := 49) 58 dX3_takeLine_49 (by decide) (fun c_49 => ?_) (fun c_49 => ?_)
        · skip
          refine v_aload_n (pc := 58) 0 dX3_takeLine_58 rfl rfl ?_
          refine v_ldcS (pc := 59) 5 (by decide) rfl rfl dX3_takeLine_59 ?_
          refine v_callV (pc := 61) (rest := []) [0, 1] 0 lk_320 (c_X3_isName l E t0 b0 tb tl nx sa tf tp tk tv th tN tO tpd by_ 5 (by decide) h_s h_nx h_tl) dX3_takeLine_61 rfl rfl (Nat.le_of_ble_eq_true rfl) (by decide) rfl rfl rfl (by decide) rfl (Rt.len rfl) (Rt.go ?_)
          refine v_w (ws' := [(t0, .inr (3, [.ref b0, .int (nI tl), .int (tf), .int (tp), .ref tb, .int (nI nx), .int (tk), .int (nI sa), .int (tv), .int (th), .int (tN), .int (tO), .int (tpd)])), (tb, .inl (E.2.1 0, 160, .inl (by_))), (b0, .inr (2, [.int (nI kn), .int (nI kp), .int (nI rl), .int (hm), .int (sp), .int (td), .int (dt), .ref bo, .ref bw, .ref bn, .ref bb, .ref bv])), (bo, .inl (E.2.1 1, 8, .inl (on))), (bw, .inl (E.2.1 1, 8, .inl (wr))), (bn, .inl (E.2.1 1, 8, .inl (nd))), (bb, .inl (E.2.1 1, 8, .inl (br))), (bv, .inl (E.2.1 1, 6, .inl (wo)))]) rfl ?_
          refine v_st (st' := [.int (if nmB tk by_ sa nx 5 = true then 1 else 0)]) rfl ?_
          refine v_ifB_eq (pc := 64) 72 dX3_takeLine_64 (by decide) (fun c_64 => ?_) (fun c_64 => ?_)
          · skip
            refine v_aload_n (pc := 72) 0 dX3_takeLine_72 rfl rfl ?_
            refine v_ldcS (pc := 73) 6 (by decide) rfl rfl dX3_takeLine_73 ?_
            refine v_callV (pc := 75) (rest := []) [0, 1] 0 lk_320 (c_X3_isName l E t0 b0 tb tl nx sa tf tp tk tv th tN tO tpd by_ 6 (by decide) h_s h_nx h_tl) dX3_takeLine_75 rfl rfl (Nat.le_of_ble_eq_true rfl) (by decide) rfl rfl rfl (by decide) rfl (Rt.len rfl) (Rt.go ?_)
            refine v_w (ws' := [(t0, .inr (3, [.ref b0, .int (nI tl), .int (tf), .int (tp), .ref tb, .int (nI nx), .int (tk), .int (nI sa), .int (tv), .int (th), .int (tN), .int (tO), .int (tpd)])), (tb, .inl (E.2.1 0, 160, .inl (by_))), (b0, .inr (2, [.int (nI kn), .int (nI kp), .int (nI rl), .int (hm), .int (sp), .int (td), .int (dt), .ref bo, .ref bw, .ref bn, .ref bb, .ref bv])), (bo, .inl (E.2.1 1, 8, .inl (on))), (bw, .inl (E.2.1 1, 8, .inl (wr))), (bn, .inl (E.2.1 1, 8, .inl (nd))), (bb, .inl (E.2.1 1, 8, .inl (br))), (bv, .inl (E.2.1 1, 6, .inl (wo)))]) rfl ?_
            refine v_st (st' := [.int (if nmB tk by_ sa nx 6 = true then 1 else 0)]) rfl ?_
            refine v_ifB_eq (pc := 78) 86 dX3_takeLine_78 (by decide) (fun c_78 => ?_) (fun c_78 => ?_)
            · skip
              refine v_aload_n (pc := 86) 0 dX3_takeLine_86 rfl rfl ?_
              refine v_ldcS (pc := 87) 7 (by decide) rfl rfl dX3_takeLine_87 ?_
              refine v_callV (pc := 89) (rest := []) [0, 1] 0 lk_320 (c_X3_isName l E t0 b0 tb tl nx sa tf tp tk tv th tN tO tpd by_ 7 (by decide) h_s h_nx h_tl) dX3_takeLine_89 rfl rfl (Nat.le_of_ble_eq_true rfl) (by decide) rfl rfl rfl (by decide) rfl (Rt.len rfl) (Rt.go ?_)
              refine v_w (ws' := [(t0, .inr (3, [.ref b0, .int (nI tl), .int (tf), .int (tp), .ref tb, .int (nI nx), .int (tk), .int (nI sa), .int (tv), .int (th), .int (tN), .int (tO), .int (tpd)])), (tb, .inl (E.2.1 0, 160, .inl (by_))), (b0, .inr (2, [.int (nI kn), .int (nI kp), .int (nI rl), .int (hm), .int (sp), .int (td), .int (dt), .ref bo, .ref bw, .ref bn, .ref bb, .ref bv])), (bo, .inl (E.2.1 1, 8, .inl (on))), (bw, .inl (E.2.1 1, 8, .inl (wr))), (bn, .inl (E.2.1 1, 8, .inl (nd))), (bb, .inl (E.2.1 1, 8, .inl (br))), (bv, .inl (E.2.1 1, 6, .inl (wo)))]) rfl ?_
              refine v_st (st' := [.int (if nmB tk by_ sa nx 7 = true then 1 else 0)]) rfl ?_
              refine v_ifB_eq (pc := 92) 102 dX3_takeLine_92 (by decide) (fun c_92 => ?_) (fun c_92 => ?_)
              · skip
                refine v_aload_n (pc := 102) 0 dX3_takeLine_102 rfl rfl ?_
                refine v_iconst (pc := 103) (v := 2) dX3_takeLine_103 (by decide) ?_
                refine v_aload_n (pc := 104) 0 dX3_takeLine_104 rfl rfl ?_
                refine gf_187 (pc := 105) 0 dX3_takeLine_105 rfl rfl ?_
                refine v_callV (pc := 108) (rest := []) [0] 0 lk_311 (c_X3_fail l E t0 b0 tb tl nx sa tf tp tk tv th tN tO tpd 2 (nI sa)) dX3_takeLine_108 rfl rfl (Nat.le_of_ble_eq_true rfl) (by decide) rfl rfl rfl (by decide) rfl (Rt.len rfl) (Rt.go ?_)
                refine v_w (ws' := [(t0, .inr (3, [.ref b0, .int (nI tl), .int (2), .int ((nI sa)), .ref tb, .int (nI nx), .int (tk), .int (nI sa), .int (tv), .int (th), .int (tN), .int (tO), .int (tpd)])), (tb, .inl (E.2.1 0, 160, .inl (by_))), (b0, .inr (2, [.int (nI kn), .int (nI kp), .int (nI rl), .int (hm), .int (sp), .int (td), .int (dt), .ref bo, .ref bw, .ref bn, .ref bb, .ref bv])), (bo, .inl (E.2.1 1, 8, .inl (on))), (bw, .inl (E.2.1 1, 8, .inl (wr))), (bn, .inl (E.2.1 1, 8, .inl (nd))), (bb, .inl (E.2.1 1, 8, .inl (br))), (bv, .inl (E.2.1 1, 6, .inl (wo)))]) rfl ?_
                refine v_st (st' := [.int (0)]) rfl ?_
                refine v_zret (pc := 111) dX3_takeLine_111 rfl rfl ⟨rfl, rfl⟩ ⟨(2), ((nI sa)), (nx), (tk), (sa), (tv), (th), (tN), (tO), (tpd), (hm), (sp), (td), (rl), (kn), (kp), (on), (wr), (nd), (br), (wo), ?_, rfl, ?_, ?_, ?_⟩
                · skip
                  have hc : lnC by_ tl tk sa nx (PS.mk th tN tO tpd hm sp td rl kn kp on wr nd br wo) = (2, sa) := by unfold lnC; rw [if_neg c_6, if_neg c_20, if_neg c_34, if_neg c_49, if_neg c_64, if_neg c_78, if_neg c_92]
                  rw [hc]; rfl
                · skip
                  have hc : lnC by_ tl tk sa nx (PS.mk th tN tO tpd hm sp td rl kn kp on wr nd br wo) = (2, sa) := by unfold lnC; rw [if_neg c_6, if_neg c_20, if_neg c_34, if_neg c_49, if_neg c_64, if_neg c_78, if_neg c_92]
                  rw [hc]; exact fun q => absurd q (show ¬ (2 : Int32) = 0 by decide)
                · skip
                  have hc : lnC by_ tl tk sa nx (PS.mk th tN tO tpd hm sp td rl kn kp on wr nd br wo) = (2, sa) := by unfold lnC; rw [if_neg c_6, if_neg c_20, if_neg c_34, if_neg c_49, if_neg c_64, if_neg c_78, if_neg c_92]
                  rw [hc]; exact fun _ => ⟨rfl, rfl⟩
                · skip
                  exact h_nx
              · skip
                refine v_aload_n (pc := 95) 0 dX3_takeLine_95 rfl rfl ?_
                refine v_callV (pc := 96) (rest := []) [0, 1, 2] 0 lk_422 (c_X3_takeToday l E t0 b0 tb tl nx sa tf tp tk tv th tN tO tpd by_ bo bw bn bb bv rl kn kp hm sp td dt (by first | assumption | omega) (by first | assumption | omega)) dX3_takeLine_96 rfl rfl (Nat.le_of_ble_eq_true rfl) (by decide) rfl rfl rfl (by decide) rfl (by rintro _ _ ⟨_, _, _, _, _, _, _, _, _, rfl, _⟩; rfl) ?_
                rintro _ _ ⟨tf_96, tp_96, tx_96, tk_96, ts_96, tv_96, tN_96, td_96, rfl, rfl, hf96_0, hf96_1, hf96_2⟩
                refine v_w (ws' := [(t0, .inr (3, [.ref b0, .int (nI tl), .int (tf_96), .int (tp_96), .ref tb, .int (nI tx_96), .int (tk_96), .int (nI ts_96), .int (tv_96), .int (th), .int (tN_96), .int (tO), .int (tpd)])), (tb, .inl (E.2.1 0, 160, .inl (by_))), (b0, .inr (2, [.int (nI kn), .int (nI kp), .int (nI rl), .int (hm), .int (sp), .int (td_96), .int (dt), .ref bo, .ref bw, .ref bn, .ref bb, .ref bv])), (bo, .inl (E.2.1 1, 8, .inl (on))), (bw, .inl (E.2.1 1, 8, .inl (wr))), (bn, .inl (E.2.1 1, 8, .inl (nd))), (bb, .inl (E.2.1 1, 8, .inl (br))), (bv, .inl (E.2.1 1, 6, .inl (wo)))]) rfl ?_
                refine v_st (st' := [.int (if (lnStop by_ tl nx td).1 = 0 then 1 else 0)]) rfl ?_
                refine v_goto (pc := 99) 111 dX3_takeLine_99 (by decide) ?_
                refine v_zret (pc := 111) dX3_takeLine_111 rfl (zn01 _) ⟨rfl, rfl⟩ ⟨(tf_96), (tp_96), (tx_96), (tk_96), (ts_96), (tv_96), (th), (tN_96), (tO), (tpd), (hm), (sp), (td_96), (rl), (kn), (kp), (on), (wr), (nd), (br), (wo), ?_, rfl, ?_, ?_, ?_⟩
                · skip
                  have hc : lnC by_ tl tk sa nx (PS.mk th tN tO tpd hm sp td rl kn kp on wr nd br wo) = lnStop by_ tl nx td := by unfold lnC; rw [if_neg c_6, if_neg c_20, if_neg c_34, if_neg c_49, if_neg c_64, if_neg c_78, if_pos c_92]
                  rw [hc]
                · skip
                  have hc : lnC by_ tl tk sa nx (PS.mk th tN tO tpd hm sp td rl kn kp on wr nd br wo) = lnStop by_ tl nx td := by unfold lnC; rw [if_neg c_6, if_neg c_20, if_neg c_34, if_neg c_49, if_neg c_64, if_neg c_78, if_pos c_92]
                  intro q; rw [hc] at q ⊢
                  obtain ⟨e0, e1, e2, e3⟩ := hf96_0 q
                  refine ⟨e0, e1, ?_⟩
                  unfold lnP; rw [if_neg c_6, if_neg c_20, if_neg c_34, if_neg c_49, if_neg c_64, if_neg c_78, if_pos c_92]; try unfold sb
                  rw [e2, e3]
                · skip
                  have hc : lnC by_ tl tk sa nx (PS.mk th tN tO tpd hm sp td rl kn kp on wr nd br wo) = lnStop by_ tl nx td := by unfold lnC; rw [if_neg c_6, if_neg c_20, if_neg c_34, if_neg c_49, if_neg c_64, if_neg c_78, if_pos c_92]
                  rw [hc]; exact hf96_1
                · skip
                  exact hf96_2
            · skip
              refine v_aload_n (pc := 81) 0 dX3_takeLine_81 rfl rfl ?_
              refine v_callV (pc := 82) (rest := []) [0, 1, 2] 0 lk_417 (c_X3_takeStop l E t0 b0 tb tl nx sa tf tp tk tv th tN tO tpd by_ bo bw bn bb bv rl kn kp hm sp td dt (by first | assumption | omega) (by first | assumption | omega)) dX3_takeLine_82 rfl rfl (Nat.le_of_ble_eq_true rfl) (by decide) rfl rfl rfl (by decide) rfl (by rintro _ _ ⟨_, _, _, _, _, _, _, _, _, rfl, _⟩; rfl) ?_
              rintro _ _ ⟨tf_82, tp_82, tx_82, tk_82, ts_82, tv_82, tN_82, sp_82, rfl, rfl, hf82_0, hf82_1, hf82_2⟩
              refine v_w (ws' := [(t0, .inr (3, [.ref b0, .int (nI tl), .int (tf_82), .int (tp_82), .ref tb, .int (nI tx_82), .int (tk_82), .int (nI ts_82), .int (tv_82), .int (th), .int (tN_82), .int (tO), .int (tpd)])), (tb, .inl (E.2.1 0, 160, .inl (by_))), (b0, .inr (2, [.int (nI kn), .int (nI kp), .int (nI rl), .int (hm), .int (sp_82), .int (td), .int (dt), .ref bo, .ref bw, .ref bn, .ref bb, .ref bv])), (bo, .inl (E.2.1 1, 8, .inl (on))), (bw, .inl (E.2.1 1, 8, .inl (wr))), (bn, .inl (E.2.1 1, 8, .inl (nd))), (bb, .inl (E.2.1 1, 8, .inl (br))), (bv, .inl (E.2.1 1, 6, .inl (wo)))]) rfl ?_
              refine v_st (st' := [.int (if (lnStop by_ tl nx sp).1 = 0 then 1 else 0)]) rfl ?_
              refine v_zret (pc := 85) dX3_takeLine_85 rfl (zn01 _) ⟨rfl, rfl⟩ ⟨(tf_82), (tp_82), (tx_82), (tk_82), (ts_82), (tv_82), (th), (tN_82), (tO), (tpd), (hm), (sp_82), (td), (rl), (kn), (kp), (on), (wr), (nd), (br), (wo), ?_, rfl, ?_, ?_, ?_⟩
              · skip
                have hc : lnC by_ tl tk sa nx (PS.mk th tN tO tpd hm sp td rl kn kp on wr nd br wo) = lnStop by_ tl nx sp := by unfold lnC; rw [if_neg c_6, if_neg c_20, if_neg c_34, if_neg c_49, if_neg c_64, if_pos c_78]
                rw [hc]
              · skip
                have hc : lnC by_ tl tk sa nx (PS.mk th tN tO tpd hm sp td rl kn kp on wr nd br wo) = lnStop by_ tl nx sp := by unfold lnC; rw [if_neg c_6, if_neg c_20, if_neg c_34, if_neg c_49, if_neg c_64, if_pos c_78]
                intro q; rw [hc] at q ⊢
                obtain ⟨e0, e1, e2, e3⟩ := hf82_0 q
                refine ⟨e0, e1, ?_⟩
                unfold lnP; rw [if_neg c_6, if_neg c_20, if_neg c_34, if_neg c_49, if_neg c_64, if_pos c_78]; try unfold sb
                rw [e2, e3]
              · skip
                have hc : lnC by_ tl tk sa nx (PS.mk th tN tO tpd hm sp td rl kn kp on wr nd br wo) = lnStop by_ tl nx sp := by unfold lnC; rw [if_neg c_6, if_neg c_20, if_neg c_34, if_neg c_49, if_neg c_64, if_pos c_78]
                rw [hc]; exact hf82_1
              · skip
                exact hf82_2
          · skip
            refine v_aload_n (pc := 67) 0 dX3_takeLine_67 rfl rfl ?_
            refine v_callV (pc := 68) (rest := []) [0, 1, 2] 0 lk_412 (c_X3_takeHome l E t0 b0 tb tl nx sa tf tp tk tv th tN tO tpd by_ bo bw bn bb bv rl kn kp hm sp td dt (by first | assumption | omega) (by first | assumption | omega)) dX3_takeLine_68 rfl rfl (Nat.le_of_ble_eq_true rfl) (by decide) rfl rfl rfl (by decide) rfl (by rintro _ _ ⟨_, _, _, _, _, _, _, _, _, rfl, _⟩; rfl) ?_
            rintro _ _ ⟨tf_68, tp_68, tx_68, tk_68, ts_68, tv_68, tO_68, hm_68, rfl, rfl, hf68_0, hf68_1, hf68_2⟩
            refine v_w (ws' := [(t0, .inr (3, [.ref b0, .int (nI tl), .int (tf_68), .int (tp_68), .ref tb, .int (nI tx_68), .int (tk_68), .int (nI ts_68), .int (tv_68), .int (th), .int (tN), .int (tO_68), .int (tpd)])), (tb, .inl (E.2.1 0, 160, .inl (by_))), (b0, .inr (2, [.int (nI kn), .int (nI kp), .int (nI rl), .int (hm_68), .int (sp), .int (td), .int (dt), .ref bo, .ref bw, .ref bn, .ref bb, .ref bv])), (bo, .inl (E.2.1 1, 8, .inl (on))), (bw, .inl (E.2.1 1, 8, .inl (wr))), (bn, .inl (E.2.1 1, 8, .inl (nd))), (bb, .inl (E.2.1 1, 8, .inl (br))), (bv, .inl (E.2.1 1, 6, .inl (wo)))]) rfl ?_
            refine v_st (st' := [.int (if (lnHome by_ tl nx hm).1 = 0 then 1 else 0)]) rfl ?_
            refine v_zret (pc := 71) dX3_takeLine_71 rfl (zn01 _) ⟨rfl, rfl⟩ ⟨(tf_68), (tp_68), (tx_68), (tk_68), (ts_68), (tv_68), (th), (tN), (tO_68), (tpd), (hm_68), (sp), (td), (rl), (kn), (kp), (on), (wr), (nd), (br), (wo), ?_, rfl, ?_, ?_, ?_⟩
            · skip
              have hc : lnC by_ tl tk sa nx (PS.mk th tN tO tpd hm sp td rl kn kp on wr nd br wo) = lnHome by_ tl nx hm := by unfold lnC; rw [if_neg c_6, if_neg c_20, if_neg c_34, if_neg c_49, if_pos c_64]
              rw [hc]
            · skip
              have hc : lnC by_ tl tk sa nx (PS.mk th tN tO tpd hm sp td rl kn kp on wr nd br wo) = lnHome by_ tl nx hm := by unfold lnC; rw [if_neg c_6, if_neg c_20, if_neg c_34, if_neg c_49, if_pos c_64]
              intro q; rw [hc] at q ⊢
              obtain ⟨e0, e1, e2, e3⟩ := hf68_0 q
              refine ⟨e0, e1, ?_⟩
              unfold lnP; rw [if_neg c_6, if_neg c_20, if_neg c_34, if_neg c_49, if_pos c_64]; try unfold sb
              rw [e2, e3]
            · skip
              have hc : lnC by_ tl tk sa nx (PS.mk th tN tO tpd hm sp td rl kn kp on wr nd br wo) = lnHome by_ tl nx hm := by unfold lnC; rw [if_neg c_6, if_neg c_20, if_neg c_34, if_neg c_49, if_pos c_64]
              rw [hc]; exact hf68_1
            · skip
              exact hf68_2
        · skip
          refine v_aload_n (pc := 52) 0 dX3_takeLine_52 rfl rfl ?_
          refine v_iconst (pc := 53) (v := -1) dX3_takeLine_53 (by decide) ?_
          refine v_callV (pc := 54) (rest := []) [0, 1, 2, 7] 0 lk_406 (c_X3_takeWorth l E t0 b0 tb tl nx sa tf tp tk tv th tN tO tpd by_ bo bw bn bb bv rl kn kp hm sp td dt wo (-1) (by first | assumption | omega) (by first | assumption | omega)) dX3_takeLine_54 rfl rfl (Nat.le_of_ble_eq_true rfl) (by decide) rfl rfl rfl (by decide) rfl (by rintro _ _ ⟨_, _, _, _, _, _, _, _, _, _, rfl, _⟩; rfl) ?_
          rintro _ _ ⟨tf_54, tp_54, tx_54, tk_54, ts_54, tv_54, tN_54, tpd_54, wo_54, rfl, rfl, hf54_0, hf54_1, hf54_2⟩
          refine v_w (ws' := [(t0, .inr (3, [.ref b0, .int (nI tl), .int (tf_54), .int (tp_54), .ref tb, .int (nI tx_54), .int (tk_54), .int (nI ts_54), .int (tv_54), .int (th), .int (tN_54), .int (tO), .int (tpd_54)])), (tb, .inl (E.2.1 0, 160, .inl (by_))), (b0, .inr (2, [.int (nI kn), .int (nI kp), .int (nI rl), .int (hm), .int (sp), .int (td), .int (dt), .ref bo, .ref bw, .ref bn, .ref bb, .ref bv])), (bo, .inl (E.2.1 1, 8, .inl (on))), (bw, .inl (E.2.1 1, 8, .inl (wr))), (bn, .inl (E.2.1 1, 8, .inl (nd))), (bb, .inl (E.2.1 1, 8, .inl (br))), (bv, .inl (E.2.1 1, 6, .inl (wo_54)))]) rfl ?_
          refine v_st (st' := [.int (if (lnWorth by_ tl nx tpd).1 = 0 then 1 else 0)]) rfl ?_
          refine v_zret (pc := 57) dX3_takeLine_57 rfl (zn01 _) ⟨rfl, rfl⟩ ⟨(tf_54), (tp_54), (tx_54), (tk_54), (ts_54), (tv_54), (th), (tN_54), (tO), (tpd_54), (hm), (sp), (td), (rl), (kn), (kp), (on), (wr), (nd), (br), (wo_54), ?_, rfl, ?_, ?_, ?_⟩
          · skip
            have hc : lnC by_ tl tk sa nx (PS.mk th tN tO tpd hm sp td rl kn kp on wr nd br wo) = lnWorth by_ tl nx tpd := by unfold lnC; rw [if_neg c_6, if_neg c_20, if_neg c_34, if_pos c_49]
            rw [hc]
          · skip
            have hc : lnC by_ tl tk sa nx (PS.mk th tN tO tpd hm sp td rl kn kp on wr nd br wo) = lnWorth by_ tl nx tpd := by unfold lnC; rw [if_neg c_6, if_neg c_20, if_neg c_34, if_pos c_49]
            intro q; rw [hc] at q ⊢
            obtain ⟨e0, e1, e2, e3, e4⟩ := hf54_0 q
            refine ⟨e0, e1, ?_⟩
            unfold lnP; rw [if_neg c_6, if_neg c_20, if_neg c_34, if_pos c_49]; try unfold sb
            rw [e2, e3, e4]
          · skip
            have hc : lnC by_ tl tk sa nx (PS.mk th tN tO tpd hm sp td rl kn kp on wr nd br wo) = lnWorth by_ tl nx tpd := by unfold lnC; rw [if_neg c_6, if_neg c_20, if_neg c_34, if_pos c_49]
            rw [hc]; exact hf54_1
          · skip
            exact hf54_2
      · skip
        refine v_aload_n (pc := 37) 0 dX3_takeLine_37 rfl rfl ?_
        refine v_iconst (pc := 38) (v := 1) dX3_takeLine_38 (by decide) ?_
        refine v_callV (pc := 39) (rest := []) [0, 1, 2, 7] 0 lk_406 (c_X3_takeWorth l E t0 b0 tb tl nx sa tf tp tk tv th tN tO tpd by_ bo bw bn bb bv rl kn kp hm sp td dt wo 1 (by first | assumption | omega) (by first | assumption | omega)) dX3_takeLine_39 rfl rfl (Nat.le_of_ble_eq_true rfl) (by decide) rfl rfl rfl (by decide) rfl (by rintro _ _ ⟨_, _, _, _, _, _, _, _, _, _, rfl, _⟩; rfl) ?_
        rintro _ _ ⟨tf_39, tp_39, tx_39, tk_39, ts_39, tv_39, tN_39, tpd_39, wo_39, rfl, rfl, hf39_0, hf39_1, hf39_2⟩
        refine v_w (ws' := [(t0, .inr (3, [.ref b0, .int (nI tl), .int (tf_39), .int (tp_39), .ref tb, .int (nI tx_39), .int (tk_39), .int (nI ts_39), .int (tv_39), .int (th), .int (tN_39), .int (tO), .int (tpd_39)])), (tb, .inl (E.2.1 0, 160, .inl (by_))), (b0, .inr (2, [.int (nI kn), .int (nI kp), .int (nI rl), .int (hm), .int (sp), .int (td), .int (dt), .ref bo, .ref bw, .ref bn, .ref bb, .ref bv])), (bo, .inl (E.2.1 1, 8, .inl (on))), (bw, .inl (E.2.1 1, 8, .inl (wr))), (bn, .inl (E.2.1 1, 8, .inl (nd))), (bb, .inl (E.2.1 1, 8, .inl (br))), (bv, .inl (E.2.1 1, 6, .inl (wo_39)))]) rfl ?_
        refine v_st (st' := [.int (if (lnWorth by_ tl nx tpd).1 = 0 then 1 else 0)]) rfl ?_
        refine v_zret (pc := 42) dX3_takeLine_42 rfl (zn01 _) ⟨rfl, rfl⟩ ⟨(tf_39), (tp_39), (tx_39), (tk_39), (ts_39), (tv_39), (th), (tN_39), (tO), (tpd_39), (hm), (sp), (td), (rl), (kn), (kp), (on), (wr), (nd), (br), (wo_39), ?_, rfl, ?_, ?_, ?_⟩
        · skip
          have hc : lnC by_ tl tk sa nx (PS.mk th tN tO tpd hm sp td rl kn kp on wr nd br wo) = lnWorth by_ tl nx tpd := by unfold lnC; rw [if_neg c_6, if_neg c_20, if_pos c_34]
          rw [hc]
        · skip
          have hc : lnC by_ tl tk sa nx (PS.mk th tN tO tpd hm sp td rl kn kp on wr nd br wo) = lnWorth by_ tl nx tpd := by unfold lnC; rw [if_neg c_6, if_neg c_20, if_pos c_34]
          intro q; rw [hc] at q ⊢
          obtain ⟨e0, e1, e2, e3, e4⟩ := hf39_0 q
          refine ⟨e0, e1, ?_⟩
          unfold lnP; rw [if_neg c_6, if_neg c_20, if_pos c_34]; try unfold sb
          rw [e2, e3, e4]
        · skip
          have hc : lnC by_ tl tk sa nx (PS.mk th tN tO tpd hm sp td rl kn kp on wr nd br wo) = lnWorth by_ tl nx tpd := by unfold lnC; rw [if_neg c_6, if_neg c_20, if_pos c_34]
          rw [hc]; exact hf39_1
        · skip
          exact hf39_2
    · skip
      refine v_aload_n (pc := 23) 0 dX3_takeLine_23 rfl rfl ?_
      refine v_callV (pc := 24) (rest := []) [0, 1, 2, 3, 4, 5, 6] 0 lk_385 (c_X3_takeRule l E t0 b0 tb tl nx sa tf tp tk tv th tN tO tpd by_ bo bw bn bb bv rl kn kp hm sp td dt on wr nd br (by first | assumption | omega) (by first | assumption | omega) (by first | assumption | omega)) dX3_takeLine_24 rfl rfl (Nat.le_of_ble_eq_true rfl) (by decide) rfl rfl rfl (by decide) rfl (by rintro _ _ ⟨_, _, _, _, _, _, _, _, _, _, _, _, _, _, rfl, _⟩; rfl) ?_
      rintro _ _ ⟨tf_24, tp_24, tx_24, tk_24, ts_24, tv_24, tN_24, tO_24, rl_24, on_24, wr_24, nd_24, br_24, rfl, rfl, hf24_0, hf24_1, hf24_2⟩
      refine v_w (ws' := [(t0, .inr (3, [.ref b0, .int (nI tl), .int (tf_24), .int (tp_24), .ref tb, .int (nI tx_24), .int (tk_24), .int (nI ts_24), .int (tv_24), .int (th), .int (tN_24), .int (tO_24), .int (tpd)])), (tb, .inl (E.2.1 0, 160, .inl (by_))), (b0, .inr (2, [.int (nI kn), .int (nI kp), .int (nI rl_24), .int (hm), .int (sp), .int (td), .int (dt), .ref bo, .ref bw, .ref bn, .ref bb, .ref bv])), (bo, .inl (E.2.1 1, 8, .inl (on_24))), (bw, .inl (E.2.1 1, 8, .inl (wr_24))), (bn, .inl (E.2.1 1, 8, .inl (nd_24))), (bb, .inl (E.2.1 1, 8, .inl (br_24))), (bv, .inl (E.2.1 1, 6, .inl (wo)))]) rfl ?_
      refine v_st (st' := [.int (if (lnRule by_ tl nx sa rl tN).1 = 0 then 1 else 0)]) rfl ?_
      refine v_zret (pc := 27) dX3_takeLine_27 rfl (zn01 _) ⟨rfl, rfl⟩ ⟨(tf_24), (tp_24), (tx_24), (tk_24), (ts_24), (tv_24), (th), (tN_24), (tO_24), (tpd), (hm), (sp), (td), (rl_24), (kn), (kp), (on_24), (wr_24), (nd_24), (br_24), (wo), ?_, rfl, ?_, ?_, ?_⟩
      · skip
        have hc : lnC by_ tl tk sa nx (PS.mk th tN tO tpd hm sp td rl kn kp on wr nd br wo) = lnRule by_ tl nx sa rl tN := by unfold lnC; rw [if_neg c_6, if_pos c_20]
        rw [hc]
      · skip
        have hc : lnC by_ tl tk sa nx (PS.mk th tN tO tpd hm sp td rl kn kp on wr nd br wo) = lnRule by_ tl nx sa rl tN := by unfold lnC; rw [if_neg c_6, if_pos c_20]
        intro q; rw [hc] at q ⊢
        obtain ⟨e0, e1, e2, e3, e4, e5, e6, e7, e8⟩ := hf24_0 q
        refine ⟨e0, e1, ?_⟩
        unfold lnP; rw [if_neg c_6, if_pos c_20]; try unfold sb
        rw [e2, e3, e4, e5, e6, e7, e8]
      · skip
        have hc : lnC by_ tl tk sa nx (PS.mk th tN tO tpd hm sp td rl kn kp on wr nd br wo) = lnRule by_ tl nx sa rl tN := by unfold lnC; rw [if_neg c_6, if_pos c_20]
        rw [hc]; exact hf24_1
      · skip
        exact hf24_2
  · skip
    refine v_aload_n (pc := 9) 0 dX3_takeLine_9 rfl rfl ?_
    refine v_callV (pc := 10) (rest := []) [0, 1, 2] 0 lk_372 (c_X3_takeStreet l E t0 b0 tb tl nx sa tf tp tk tv th tN tO tpd by_ bo bw bn bb bv rl kn kp hm sp td dt (by first | assumption | omega) (by first | assumption | omega)) dX3_takeLine_10 rfl rfl (Nat.le_of_ble_eq_true rfl) (by decide) rfl rfl rfl (by decide) rfl (by rintro _ _ ⟨_, _, _, _, _, _, _, _, _, _, rfl, _⟩; rfl) ?_
    rintro _ _ ⟨tf_10, tp_10, tx_10, tk_10, ts_10, tv_10, th_10, kn_10, kp_10, rfl, rfl, hf10_0, hf10_1, hf10_2⟩
    refine v_w (ws' := [(t0, .inr (3, [.ref b0, .int (nI tl), .int (tf_10), .int (tp_10), .ref tb, .int (nI tx_10), .int (tk_10), .int (nI ts_10), .int (tv_10), .int (th_10), .int (tN), .int (tO), .int (tpd)])), (tb, .inl (E.2.1 0, 160, .inl (by_))), (b0, .inr (2, [.int (nI kn_10), .int (nI kp_10), .int (nI rl), .int (hm), .int (sp), .int (td), .int (dt), .ref bo, .ref bw, .ref bn, .ref bb, .ref bv])), (bo, .inl (E.2.1 1, 8, .inl (on))), (bw, .inl (E.2.1 1, 8, .inl (wr))), (bn, .inl (E.2.1 1, 8, .inl (nd))), (bb, .inl (E.2.1 1, 8, .inl (br))), (bv, .inl (E.2.1 1, 6, .inl (wo)))]) rfl ?_
    refine v_st (st' := [.int (if (lnStreet by_ tl nx sa th).1 = 0 then 1 else 0)]) rfl ?_
    refine v_zret (pc := 13) dX3_takeLine_13 rfl (zn01 _) ⟨rfl, rfl⟩ ⟨(tf_10), (tp_10), (tx_10), (tk_10), (ts_10), (tv_10), (th_10), (tN), (tO), (tpd), (hm), (sp), (td), (rl), (kn_10), (kp_10), (on), (wr), (nd), (br), (wo), ?_, rfl, ?_, ?_, ?_⟩
    · skip
      have hc : lnC by_ tl tk sa nx (PS.mk th tN tO tpd hm sp td rl kn kp on wr nd br wo) = lnStreet by_ tl nx sa th := by unfold lnC; rw [if_pos c_6]
      rw [hc]
    · skip
      have hc : lnC by_ tl tk sa nx (PS.mk th tN tO tpd hm sp td rl kn kp on wr nd br wo) = lnStreet by_ tl nx sa th := by unfold lnC; rw [if_pos c_6]
      intro q; rw [hc] at q ⊢
      obtain ⟨e0, e1, e2, e3, e4⟩ := hf10_0 q
      refine ⟨e0, e1, ?_⟩
      unfold lnP; rw [if_pos c_6]; try unfold sb
      rw [e2, e3, e4]
    · skip
      have hc : lnC by_ tl tk sa nx (PS.mk th tN tO tpd hm sp td rl kn kp on wr nd br wo) = lnStreet by_ tl nx sa th := by unfold lnC; rw [if_pos c_6]
      rw [hc]; exact hf10_1
    · skip
      exact hf10_2
