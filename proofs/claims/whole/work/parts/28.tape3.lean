/-! lines, second part -/
theorem nuC_in {b : Nat → Int32} {n p : Nat} (h : nuC b n p 0 5 = 0) : vp_in (tkV b n p 0) 6 := by
  obtain ⟨k, hk, e⟩ := nuC_N (hi := 5) (by decide) (by decide) h
  rw [e]; exact vp_in_nI (by omega) (by decide)
theorem cl_of {x : Int32} (h : ¬ x < 0) : nI x.toNatClampNeg = x := by
  apply Int32.toInt_inj.mp
  have h2 : 0 ≤ x.toInt := by
    have := Int32.le_iff_toInt_le.mp (Int32.not_lt.mp h)
    simpa using this
  have h3 : x.toInt < 2 ^ 31 := Int32.toInt_lt x
  unfold Int32.toNatClampNeg
  rw [nI_toInt (by omega)]
  omega
theorem nuC_cl {b : Nat → Int32} {n p : Nat} {lo hi : Int32} (h : nuC b n p lo hi = 0) (hl : 0 ≤ lo) : nI (tkV b n p 0).toNatClampNeg = tkV b n p 0 :=
  cl_of (fun z => (nuC_ok h).2.1 (Int32.lt_of_lt_of_le z hl))
theorem ntC_v {b : Nat → Int32} {n p : Nat} (v al : Int32) : ntC (tkK b n p) (tkV b n p v) al = ntC (tkK b n p) (tkV b n p 0) al := by
  by_cases h : tkK b n p = 2
  · rw [tkV_0 v h]
  · unfold ntC numC; rw [if_neg h, if_neg h]; rfl
def rlP (b : Nat → Int32) (n : Nat) : Nat → Nat → Int32 → Int32 → Int32 → Int32 → (Int32 × Nat) × Int32 × Int32 × Int32
  | 0, _, nd, br, _, nn => ((2, n), nd, br, nn)
  | k + 1, p, nd, br, bn, nn =>
    if tkO b n p = true then
      if tkK b n p = 3 ∧ (bn = 0 ∨ ¬ br = 0) then ((0, tkN b n p), nd, br, nn)
      else if nmB (tkK b n p) b (tkS b n p) (tkN b n p) 2 = true ∧ bn = 0 then rlP b n k (tkN b n p) nd br 1 nn
      else if ntC (tkK b n p) (tkV b n p 0) (nd ||| br) = 0 then
        (if bn = 0 then rlP b n k (tkN b n p) (nd ||| ((1 : Int32) <<< (tkV b n p 0 &&& 31))) br bn (nn ||| ((1 : Int32) <<< (tkV b n p 0 &&& 31)))
         else rlP b n k (tkN b n p) nd (br ||| ((1 : Int32) <<< (tkV b n p 0 &&& 31))) bn (nn ||| ((1 : Int32) <<< (tkV b n p 0 &&& 31))))
      else ((ntC (tkK b n p) (tkV b n p 0) (nd ||| br), tkS b n p), nd, br, nn)
    else ((1, tkS b n p), nd, br, nn)
section RL
variable {b : Nat → Int32} {n k p : Nat} {nd br bn nn : Int32}
theorem rl_tok (h : ¬ tkO b n p = true) : rlP b n (k + 1) p nd br bn nn = ((1, tkS b n p), nd, br, nn) := by rw [rlP, if_neg h]
theorem rl_close (h : tkO b n p = true) (h2 : tkK b n p = 3 ∧ (bn = 0 ∨ ¬ br = 0)) : rlP b n (k + 1) p nd br bn nn = ((0, tkN b n p), nd, br, nn) := by rw [rlP, if_pos h, if_pos h2]
theorem rl_not (h : tkO b n p = true) (h2 : ¬ (tkK b n p = 3 ∧ (bn = 0 ∨ ¬ br = 0))) (h3 : nmB (tkK b n p) b (tkS b n p) (tkN b n p) 2 = true ∧ bn = 0) : rlP b n (k + 1) p nd br bn nn = rlP b n k (tkN b n p) nd br 1 nn := by rw [rlP, if_pos h, if_neg h2, if_pos h3]
theorem rl_bad {v : Int32} (h : tkO b n p = true) (h2 : ¬ (tkK b n p = 3 ∧ (bn = 0 ∨ ¬ br = 0))) (h3 : ¬ (nmB (tkK b n p) b (tkS b n p) (tkN b n p) 2 = true ∧ bn = 0)) (h4 : ¬ ntC (tkK b n p) (tkV b n p v) (nd ||| br) = 0) : rlP b n (k + 1) p nd br bn nn = ((ntC (tkK b n p) (tkV b n p v) (nd ||| br), tkS b n p), nd, br, nn) := by
  rw [ntC_v] at h4 ⊢
  rw [rlP, if_pos h, if_neg h2, if_neg h3, if_neg h4]
theorem nt_ok {v al : Int32} (h4 : ntC (tkK b n p) (tkV b n p v) al = 0) : numC (tkK b n p) (tkV b n p v) 0 5 = 0 ∧ tkV b n p v = tkV b n p 0 ∧ nuC b n p 0 5 = 0 := by
  unfold ntC at h4
  by_cases e : numC (tkK b n p) (tkV b n p v) 0 5 = 0
  · refine ⟨e, ?_, ?_⟩
    · rw [numC_v] at e; exact nuC_val v e
    · rw [numC_v] at e; exact e
  · rw [if_neg e] at h4; exact absurd h4 e
theorem rl_need {v : Int32} (h : tkO b n p = true) (h2 : ¬ (tkK b n p = 3 ∧ (bn = 0 ∨ ¬ br = 0))) (h3 : ¬ (nmB (tkK b n p) b (tkS b n p) (tkN b n p) 2 = true ∧ bn = 0)) (h4 : ntC (tkK b n p) (tkV b n p v) (nd ||| br) = 0) (h5 : bn = 0) : rlP b n (k + 1) p nd br bn nn = rlP b n k (tkN b n p) (nd ||| ((1 : Int32) <<< (tkV b n p v &&& 31))) br bn (nn ||| ((1 : Int32) <<< (tkV b n p v &&& 31))) := by
  rw [(nt_ok h4).2.1]
  rw [ntC_v] at h4
  rw [rlP, if_pos h, if_neg h2, if_neg h3, if_pos h4, if_pos h5]
theorem rl_bar {v : Int32} (h : tkO b n p = true) (h2 : ¬ (tkK b n p = 3 ∧ (bn = 0 ∨ ¬ br = 0))) (h3 : ¬ (nmB (tkK b n p) b (tkS b n p) (tkN b n p) 2 = true ∧ bn = 0)) (h4 : ntC (tkK b n p) (tkV b n p v) (nd ||| br) = 0) (h5 : ¬ bn = 0) : rlP b n (k + 1) p nd br bn nn = rlP b n k (tkN b n p) nd (br ||| ((1 : Int32) <<< (tkV b n p v &&& 31))) bn (nn ||| ((1 : Int32) <<< (tkV b n p v &&& 31))) := by
  rw [(nt_ok h4).2.1]
  rw [ntC_v] at h4
  rw [rlP, if_pos h, if_neg h2, if_neg h3, if_pos h4, if_neg h5]
end RL
def rlR (b : Nat → Int32) (n p : Nat) (nn : Int32) : (Int32 × Nat) × Int32 × Int32 × Int32 := rlP b n (n + 1) (tkN b n (tkN b n p)) 0 0 0 (nn ||| ((1 : Int32) <<< (tkV b n (tkN b n p) 0 &&& 31)))
def lnRule (b : Nat → Int32) (n p sa rl : Nat) (nn : Int32) : Int32 × Nat := if rl < 8 then ckN b n p 0 3 (ckA b n (tkN b n p) 0 (rlR b n p nn).1) else (5, sa)
theorem c_X3_takeHome (l : Launch) (E : VE) (t0 : Nat) (b0 : Nat) (tb : Nat) (tl : Nat) (nx : Nat) (sa : Nat) (tf : Int32) (tp : Int32) (tk : Int32) (tv : Int32) (th : Int32) (tN : Int32) (tO : Int32) (tpd : Int32) (by_ : Nat → Int32) (bo : Nat) (bw : Nat) (bn : Nat) (bb : Nat) (bv : Nat) (rl : Nat) (kn : Nat) (kp : Nat) (hm : Int32) (sp : Int32) (td : Int32) (dt : Int32) (h_nx : nx ≤ tl) (h_tl : tl ≤ 160) : Ct l E yX3_takeHome cX3_takeHome 1 (Option.some FieldType.boolean) 3 64 0 0 [.ref t0] [(t0, .inr (3, [.ref b0, .int (nI tl), .int (tf), .int (tp), .ref tb, .int (nI nx), .int (tk), .int (nI sa), .int (tv), .int (th), .int (tN), .int (tO), .int (tpd)])), (tb, .inl (E.2.1 0, 160, .inl (by_))), (b0, .inr (2, [.int (nI kn), .int (nI kp), .int (nI rl), .int (hm), .int (sp), .int (td), .int (dt), .ref bo, .ref bw, .ref bn, .ref bb, .ref bv]))] (fun v wd => ∃ (tf_ : Int32) (tp_ : Int32) (tx_ : Nat) (tk_ : Int32) (ts_ : Nat) (tv_ : Int32) (tO_ : Int32) (hm_ : Int32), v = some (.int (if (lnHome by_ tl nx hm).1 = 0 then 1 else 0)) ∧ wd = [(t0, .inr (3, [.ref b0, .int (nI tl), .int (tf_), .int (tp_), .ref tb, .int (nI tx_), .int (tk_), .int (nI ts_), .int (tv_), .int (th), .int (tN), .int (tO_), .int (tpd)])), (tb, .inl (E.2.1 0, 160, .inl (by_))), (b0, .inr (2, [.int (nI kn), .int (nI kp), .int (nI rl), .int (hm_), .int (sp), .int (td), .int (dt), .ref bo, .ref bw, .ref bn, .ref bb, .ref bv]))] ∧ ((lnHome by_ tl nx hm).1 = 0 → tf_ = tf ∧ tx_ = (lnHome by_ tl nx hm).2 ∧ hm_ = hm ||| ((1 : Int32) <<< (tkV by_ tl nx 0 &&& 31)) ∧ tO_ = tO ||| ((1 : Int32) <<< (tkV by_ tl nx 0 &&& 31))) ∧ (¬ (lnHome by_ tl nx hm).1 = 0 → tf_ = (lnHome by_ tl nx hm).1 ∧ tp_ = nI (lnHome by_ tl nx hm).2) ∧ (tx_ ≤ tl)) := by
  refine Ct.of (own := RX3) (nm := "takeHome") (lv := [(0, .ref t0)]) (by decide) rfl rfl (Nat.le_of_ble_eq_true rfl) rfl ?_
  refine v_aload_n (pc := 0) 0 dX3_takeHome_0 rfl rfl ?_
  refine v_callV (pc := 1) (rest := []) [0, 1] 0 lk_301 (c_X3_takeToken l E t0 b0 tb tl nx sa tf tp tk tv th tN tO tpd by_ (by first | assumption | omega) (by first | assumption | omega)) dX3_takeHome_1 rfl rfl (Nat.le_of_ble_eq_true rfl) (by decide) rfl rfl rfl (by decide) rfl (Rt.len rfl) (Rt.go ?_)
  refine v_w (ws' := [(t0, .inr (3, [.ref b0, .int (nI tl), .int (if tkO by_ tl nx = true then tf else 1), .int (if tkO by_ tl nx = true then tp else nI (tkS by_ tl nx)), .ref tb, .int (nI (tkN by_ tl nx)), .int (tkK by_ tl nx), .int (nI (tkS by_ tl nx)), .int (tkV by_ tl nx tv), .int (th), .int (tN), .int (tO), .int (tpd)])), (tb, .inl (E.2.1 0, 160, .inl (by_))), (b0, .inr (2, [.int (nI kn), .int (nI kp), .int (nI rl), .int (hm), .int (sp), .int (td), .int (dt), .ref bo, .ref bw, .ref bn, .ref bb, .ref bv]))]) rfl ?_
  refine v_st (st' := [.int (if tkO by_ tl nx = true then 1 else 0)]) rfl ?_
  refine v_ifB_eq (pc := 4) 14 dX3_takeHome_4 (by decide) (fun c_4 => ?_) (fun c_4 => ?_)
  · skip
    refine v_iconst (pc := 14) (v := 0) dX3_takeHome_14 (by decide) ?_
    refine v_zret (pc := 15) dX3_takeHome_15 rfl rfl ⟨rfl, rfl⟩ ⟨(if tkO by_ tl nx = true then tf else 1), (if tkO by_ tl nx = true then tp else nI (tkS by_ tl nx)), (tkN by_ tl nx), (tkK by_ tl nx), (tkS by_ tl nx), (tkV by_ tl nx tv), (tO), (hm), ?_, rfl, ?_, ?_, ?_⟩
    · skip
      have hc : lnHome by_ tl nx hm = (1, tkS by_ tl nx) := by exact ckN_t c_4
      rw [hc]; rfl
    · skip
      have hc : lnHome by_ tl nx hm = (1, tkS by_ tl nx) := by exact ckN_t c_4
      rw [hc]; exact fun q => absurd q (show ¬ (1 : Int32) = 0 by decide)
    · skip
      have hc : lnHome by_ tl nx hm = (1, tkS by_ tl nx) := by exact ckN_t c_4
      rw [hc]; exact fun _ => ⟨if_neg c_4, if_neg c_4⟩
    · skip
      exact (tkN_b h_nx).2
  · skip
    refine v_aload_n (pc := 7) 0 dX3_takeHome_7 rfl rfl ?_
    refine v_callV (pc := 8) (rest := []) [0] 0 lk_389 (c_X3_isOne l E t0 b0 tb tl (tkN by_ tl nx) (tkS by_ tl nx) (if tkO by_ tl nx = true then tf else 1) (if tkO by_ tl nx = true then tp else nI (tkS by_ tl nx)) (tkK by_ tl nx) (tkV by_ tl nx tv) th tN tO tpd) dX3_takeHome_8 rfl rfl (Nat.le_of_ble_eq_true rfl) (by decide) rfl rfl rfl (by decide) rfl (Rt.len rfl) (Rt.go ?_)
    refine v_w (ws' := [(t0, .inr (3, [.ref b0, .int (nI tl), .int (if numC (tkK by_ tl nx) (tkV by_ tl nx tv) 0 3 = 0 then (if tkO by_ tl nx = true then tf else 1) else numC (tkK by_ tl nx) (tkV by_ tl nx tv) 0 3), .int (if numC (tkK by_ tl nx) (tkV by_ tl nx tv) 0 3 = 0 then (if tkO by_ tl nx = true then tp else nI (tkS by_ tl nx)) else nI (tkS by_ tl nx)), .ref tb, .int (nI (tkN by_ tl nx)), .int ((tkK by_ tl nx)), .int (nI (tkS by_ tl nx)), .int ((tkV by_ tl nx tv)), .int (th), .int (tN), .int (if numC (tkK by_ tl nx) (tkV by_ tl nx tv) 0 3 = 0 then tO ||| ((1 : Int32) <<< ((tkV by_ tl nx tv) &&& 31)) else tO), .int (tpd)])), (tb, .inl (E.2.1 0, 160, .inl (by_))), (b0, .inr (2, [.int (nI kn), .int (nI kp), .int (nI rl), .int (hm), .int (sp), .int (td), .int (dt), .ref bo, .ref bw, .ref bn, .ref bb, .ref bv]))]) rfl ?_
    refine v_st (st' := [.int (if numC (tkK by_ tl nx) (tkV by_ tl nx tv) 0 3 = 0 then 1 else 0)]) rfl ?_
    refine v_ifB_ne (pc := 11) 16 dX3_takeHome_11 (by decide) (fun c_11 => ?_) (fun c_11 => ?_)
    · skip
      refine v_aload_n (pc := 16) 0 dX3_takeHome_16 rfl rfl ?_
      refine gf_176 (pc := 17) 0 dX3_takeHome_17 rfl rfl ?_
      refine gf_101 (pc := 20) 2 dX3_takeHome_20 rfl rfl ?_
      refine v_aload_n (pc := 23) 0 dX3_takeHome_23 rfl rfl ?_
      refine gf_188 (pc := 24) 0 dX3_takeHome_24 rfl rfl ?_
      refine v_callBit (pc := 27) (rest := []) [] (by decide) tb_399 tb_58 tb_398 (c_X4_bitOf l E hm (tkV by_ tl nx tv)) dX3_takeHome_27 rfl rfl (Nat.le_of_ble_eq_true rfl) (by decide) (by decide) rfl (Rt.len rfl) (Rt.go ?_)
      refine v_w (ws' := [(t0, .inr (3, [.ref b0, .int (nI tl), .int (if numC (tkK by_ tl nx) (tkV by_ tl nx tv) 0 3 = 0 then (if tkO by_ tl nx = true then tf else 1) else numC (tkK by_ tl nx) (tkV by_ tl nx tv) 0 3), .int (if numC (tkK by_ tl nx) (tkV by_ tl nx tv) 0 3 = 0 then (if tkO by_ tl nx = true then tp else nI (tkS by_ tl nx)) else nI (tkS by_ tl nx)), .ref tb, .int (nI (tkN by_ tl nx)), .int ((tkK by_ tl nx)), .int (nI (tkS by_ tl nx)), .int ((tkV by_ tl nx tv)), .int (th), .int (tN), .int (if numC (tkK by_ tl nx) (tkV by_ tl nx tv) 0 3 = 0 then tO ||| ((1 : Int32) <<< ((tkV by_ tl nx tv) &&& 31)) else tO), .int (tpd)])), (tb, .inl (E.2.1 0, 160, .inl (by_))), (b0, .inr (2, [.int (nI kn), .int (nI kp), .int (nI rl), .int (hm), .int (sp), .int (td), .int (dt), .ref bo, .ref bw, .ref bn, .ref bb, .ref bv]))]) rfl ?_
      refine v_st (st' := [.int (bt1 hm (tkV by_ tl nx tv))]) rfl ?_
      refine v_iconst (pc := 30) (v := 1) dX3_takeHome_30 (by decide) ?_
      refine v_icmp_ne (pc := 31) 44 dX3_takeHome_31 (by decide) (fun c_31 => ?_) (fun c_31 => ?_)
      · skip
        refine v_aload_n (pc := 44) 0 dX3_takeHome_44 rfl rfl ?_
        refine gf_176 (pc := 45) 0 dX3_takeHome_45 rfl rfl ?_
        refine v_dup (pc := 48) dX3_takeHome_48 rfl ?_
        refine gf_101 (pc := 49) 2 dX3_takeHome_49 rfl rfl ?_
        refine v_iconst (pc := 52) (v := 1) dX3_takeHome_52 (by decide) ?_
        refine v_aload_n (pc := 53) 0 dX3_takeHome_53 rfl rfl ?_
        refine gf_188 (pc := 54) 0 dX3_takeHome_54 rfl rfl ?_
        refine v_ishl (pc := 57) dX3_takeHome_57 ?_
        refine v_ior (pc := 58) dX3_takeHome_58 ?_
        refine pf_101 (pc := 59) (ws' := [(t0, .inr (3, [.ref b0, .int (nI tl), .int (if numC (tkK by_ tl nx) (tkV by_ tl nx tv) 0 3 = 0 then (if tkO by_ tl nx = true then tf else 1) else numC (tkK by_ tl nx) (tkV by_ tl nx tv) 0 3), .int (if numC (tkK by_ tl nx) (tkV by_ tl nx tv) 0 3 = 0 then (if tkO by_ tl nx = true then tp else nI (tkS by_ tl nx)) else nI (tkS by_ tl nx)), .ref tb, .int (nI (tkN by_ tl nx)), .int ((tkK by_ tl nx)), .int (nI (tkS by_ tl nx)), .int ((tkV by_ tl nx tv)), .int (th), .int (tN), .int (if numC (tkK by_ tl nx) (tkV by_ tl nx tv) 0 3 = 0 then tO ||| ((1 : Int32) <<< ((tkV by_ tl nx tv) &&& 31)) else tO), .int (tpd)])), (tb, .inl (E.2.1 0, 160, .inl (by_))), (b0, .inr (2, [.int (nI kn), .int (nI kp), .int (nI rl), .int ((hm) ||| ((1 : Int32) <<< (((tkV by_ tl nx tv)) &&& 31))), .int (sp), .int (td), .int (dt), .ref bo, .ref bw, .ref bn, .ref bb, .ref bv]))]) 2 dX3_takeHome_59 rfl rfl rfl (Nat.le_of_ble_eq_true rfl) rfl ?_
        refine v_aload_n (pc := 62) 0 dX3_takeHome_62 rfl rfl ?_
        refine v_callV (pc := 63) (rest := []) [0, 1] 0 lk_380 (c_X3_takeClosing l E t0 b0 tb tl (tkN by_ tl nx) (tkS by_ tl nx) (if numC (tkK by_ tl nx) (tkV by_ tl nx tv) 0 3 = 0 then (if tkO by_ tl nx = true then tf else 1) else numC (tkK by_ tl nx) (tkV by_ tl nx tv) 0 3) (if numC (tkK by_ tl nx) (tkV by_ tl nx tv) 0 3 = 0 then (if tkO by_ tl nx = true then tp else nI (tkS by_ tl nx)) else nI (tkS by_ tl nx)) (tkK by_ tl nx) (tkV by_ tl nx tv) th tN (if numC (tkK by_ tl nx) (tkV by_ tl nx tv) 0 3 = 0 then tO ||| ((1 : Int32) <<< ((tkV by_ tl nx tv) &&& 31)) else tO) tpd by_ (tkN_b h_nx).2 h_tl) dX3_takeHome_63 rfl rfl (Nat.le_of_ble_eq_true rfl) (by decide) rfl rfl rfl (by decide) rfl (by rintro _ _ ⟨_, _, _, _, _, _, _, rfl, _⟩; rfl) ?_
        rintro _ _ ⟨tf_63, tp_63, tx_63, tk_63, ts_63, tv_63, rfl, rfl, hf63_0, hf63_1, hf63_2⟩
        refine v_w (ws' := [(t0, .inr (3, [.ref b0, .int (nI tl), .int (tf_63), .int (tp_63), .ref tb, .int (nI tx_63), .int (tk_63), .int (nI ts_63), .int (tv_63), .int (th), .int (tN), .int ((if numC (tkK by_ tl nx) (tkV by_ tl nx tv) 0 3 = 0 then tO ||| ((1 : Int32) <<< ((tkV by_ tl nx tv) &&& 31)) else tO)), .int (tpd)])), (tb, .inl (E.2.1 0, 160, .inl (by_))), (b0, .inr (2, [.int (nI kn), .int (nI kp), .int (nI rl), .int ((hm) ||| ((1 : Int32) <<< (((tkV by_ tl nx tv)) &&& 31))), .int (sp), .int (td), .int (dt), .ref bo, .ref bw, .ref bn, .ref bb, .ref bv]))]) rfl ?_
        refine v_st (st' := [.int (if (ckC by_ tl (tkN by_ tl nx)).1 = 0 then 1 else 0)]) rfl ?_
        refine v_zret (pc := 66) dX3_takeHome_66 rfl (zn01 _) ⟨rfl, rfl⟩ ⟨(tf_63), (tp_63), (tx_63), (tk_63), (ts_63), (tv_63), ((if numC (tkK by_ tl nx) (tkV by_ tl nx tv) 0 3 = 0 then tO ||| ((1 : Int32) <<< ((tkV by_ tl nx tv) &&& 31)) else tO)), ((hm) ||| ((1 : Int32) <<< (((tkV by_ tl nx tv)) &&& 31))), ?_, rfl, ?_, ?_, ?_⟩
        · skip
          obtain ⟨h1, h2, h3⟩ := ckN_ok (k := if bt1 hm (tkV by_ tl nx 0) = 1 then (4, tkS by_ tl nx) else ckC by_ tl (tkN by_ tl nx)) tv c_4 c_11
          have hc : lnHome by_ tl nx hm = ckC by_ tl (tkN by_ tl nx) := h1.trans (if_neg (by rw [← h3]; exact c_31))
          rw [hc]
        · skip
          obtain ⟨h1, h2, h3⟩ := ckN_ok (k := if bt1 hm (tkV by_ tl nx 0) = 1 then (4, tkS by_ tl nx) else ckC by_ tl (tkN by_ tl nx)) tv c_4 c_11
          have hc : lnHome by_ tl nx hm = ckC by_ tl (tkN by_ tl nx) := h1.trans (if_neg (by rw [← h3]; exact c_31))
          rw [hc]; exact fun q => ⟨(hf63_0 q).1.trans (by rw [if_pos c_11, if_pos c_4]), (hf63_0 q).2, by rw [h3], by rw [if_pos c_11, h3]⟩
        · skip
          obtain ⟨h1, h2, h3⟩ := ckN_ok (k := if bt1 hm (tkV by_ tl nx 0) = 1 then (4, tkS by_ tl nx) else ckC by_ tl (tkN by_ tl nx)) tv c_4 c_11
          have hc : lnHome by_ tl nx hm = ckC by_ tl (tkN by_ tl nx) := h1.trans (if_neg (by rw [← h3]; exact c_31))
          rw [hc]; exact hf63_1
        · skip
          exact hf63_2
      · skip
        refine v_aload_n (pc := 34) 0 dX3_takeHome_34 rfl rfl ?_
        refine v_iconst (pc := 35) (v := 4) dX3_takeHome_35 (by decide) ?_
        refine v_aload_n (pc := 36) 0 dX3_takeHome_36 rfl rfl ?_
        refine gf_187 (pc := 37) 0 dX3_takeHome_37 rfl rfl ?_
        refine v_callV (pc := 40) (rest := []) [0] 0 lk_311 (c_X3_fail l E t0 b0 tb tl (tkN by_ tl nx) (tkS by_ tl nx) (if numC (tkK by_ tl nx) (tkV by_ tl nx tv) 0 3 = 0 then (if tkO by_ tl nx = true then tf else 1) else numC (tkK by_ tl nx) (tkV by_ tl nx tv) 0 3) (if numC (tkK by_ tl nx) (tkV by_ tl nx tv) 0 3 = 0 then (if tkO by_ tl nx = true then tp else nI (tkS by_ tl nx)) else nI (tkS by_ tl nx)) (tkK by_ tl nx) (tkV by_ tl nx tv) th tN (if numC (tkK by_ tl nx) (tkV by_ tl nx tv) 0 3 = 0 then tO ||| ((1 : Int32) <<< ((tkV by_ tl nx tv) &&& 31)) else tO) tpd 4 (nI (tkS by_ tl nx))) dX3_takeHome_40 rfl rfl (Nat.le_of_ble_eq_true rfl) (by decide) rfl rfl rfl (by decide) rfl (Rt.len rfl) (Rt.go ?_)
        refine v_w (ws' := [(t0, .inr (3, [.ref b0, .int (nI tl), .int (4), .int ((nI (tkS by_ tl nx))), .ref tb, .int (nI (tkN by_ tl nx)), .int ((tkK by_ tl nx)), .int (nI (tkS by_ tl nx)), .int ((tkV by_ tl nx tv)), .int (th), .int (tN), .int ((if numC (tkK by_ tl nx) (tkV by_ tl nx tv) 0 3 = 0 then tO ||| ((1 : Int32) <<< ((tkV by_ tl nx tv) &&& 31)) else tO)), .int (tpd)])), (tb, .inl (E.2.1 0, 160, .inl (by_))), (b0, .inr (2, [.int (nI kn), .int (nI kp), .int (nI rl), .int (hm), .int (sp), .int (td), .int (dt), .ref bo, .ref bw, .ref bn, .ref bb, .ref bv]))]) rfl ?_
        refine v_st (st' := [.int (0)]) rfl ?_
        refine v_zret (pc := 43) dX3_takeHome_43 rfl rfl ⟨rfl, rfl⟩ ⟨(4), ((nI (tkS by_ tl nx))), (tkN by_ tl nx), ((tkK by_ tl nx)), (tkS by_ tl nx), ((tkV by_ tl nx tv)), ((if numC (tkK by_ tl nx) (tkV by_ tl nx tv) 0 3 = 0 then tO ||| ((1 : Int32) <<< ((tkV by_ tl nx tv) &&& 31)) else tO)), (hm), ?_, rfl, ?_, ?_, ?_⟩
        · skip
          have hc : lnHome by_ tl nx hm = (4, tkS by_ tl nx) := by obtain ⟨h1, h2, h3⟩ := ckN_ok (k := if bt1 hm (tkV by_ tl nx 0) = 1 then (4, tkS by_ tl nx) else ckC by_ tl (tkN by_ tl nx)) tv c_4 c_11; exact h1.trans (if_pos (by rw [← h3]; exact c_31))
          rw [hc]; rfl
        · skip
          have hc : lnHome by_ tl nx hm = (4, tkS by_ tl nx) := by obtain ⟨h1, h2, h3⟩ := ckN_ok (k := if bt1 hm (tkV by_ tl nx 0) = 1 then (4, tkS by_ tl nx) else ckC by_ tl (tkN by_ tl nx)) tv c_4 c_11; exact h1.trans (if_pos (by rw [← h3]; exact c_31))
          rw [hc]; exact fun q => absurd q (show ¬ (4 : Int32) = 0 by decide)
        · skip
          have hc : lnHome by_ tl nx hm = (4, tkS by_ tl nx) := by obtain ⟨h1, h2, h3⟩ := ckN_ok (k := if bt1 hm (tkV by_ tl nx 0) = 1 then (4, tkS by_ tl nx) else ckC by_ tl (tkN by_ tl nx)) tv c_4 c_11; exact h1.trans (if_pos (by rw [← h3]; exact c_31))
          rw [hc]; exact fun _ => ⟨rfl, rfl⟩
        · skip
          exact (tkN_b h_nx).2
    · skip
      refine v_iconst (pc := 14) (v := 0) dX3_takeHome_14 (by decide) ?_
      refine v_zret (pc := 15) dX3_takeHome_15 rfl rfl ⟨rfl, rfl⟩ ⟨(if numC (tkK by_ tl nx) (tkV by_ tl nx tv) 0 3 = 0 then (if tkO by_ tl nx = true then tf else 1) else numC (tkK by_ tl nx) (tkV by_ tl nx tv) 0 3), (if numC (tkK by_ tl nx) (tkV by_ tl nx tv) 0 3 = 0 then (if tkO by_ tl nx = true then tp else nI (tkS by_ tl nx)) else nI (tkS by_ tl nx)), (tkN by_ tl nx), ((tkK by_ tl nx)), (tkS by_ tl nx), ((tkV by_ tl nx tv)), (if numC (tkK by_ tl nx) (tkV by_ tl nx tv) 0 3 = 0 then tO ||| ((1 : Int32) <<< ((tkV by_ tl nx tv) &&& 31)) else tO), (hm), ?_, rfl, ?_, ?_, ?_⟩
      · skip
        have hnz : ¬ numC (tkK by_ tl nx) (tkV by_ tl nx tv) 0 3 = 0 := c_11
        have hc : lnHome by_ tl nx hm = (numC (tkK by_ tl nx) (tkV by_ tl nx tv) 0 3, tkS by_ tl nx) := by exact ckN_no tv c_4 c_11
        rw [hc]; exact congrArg (fun z => some (Value.int z)) (if_neg hnz).symm
      · skip
        have hnz : ¬ numC (tkK by_ tl nx) (tkV by_ tl nx tv) 0 3 = 0 := c_11
        have hc : lnHome by_ tl nx hm = (numC (tkK by_ tl nx) (tkV by_ tl nx tv) 0 3, tkS by_ tl nx) := by exact ckN_no tv c_4 c_11
        rw [hc]; exact fun q => absurd q hnz
      · skip
        have hnz : ¬ numC (tkK by_ tl nx) (tkV by_ tl nx tv) 0 3 = 0 := c_11
        have hc : lnHome by_ tl nx hm = (numC (tkK by_ tl nx) (tkV by_ tl nx tv) 0 3, tkS by_ tl nx) := by exact ckN_no tv c_4 c_11
        rw [hc]; exact fun _ => ⟨if_neg c_11, if_neg c_11⟩
      · skip
        exact (tkN_b h_nx).2
theorem c_X3_takeWorth (l : Launch) (E : VE) (t0 : Nat) (b0 : Nat) (tb : Nat) (tl : Nat) (nx : Nat) (sa : Nat) (tf : Int32) (tp : Int32) (tk : Int32) (tv : Int32) (th : Int32) (tN : Int32) (tO : Int32) (tpd : Int32) (by_ : Nat → Int32) (bo : Nat) (bw : Nat) (bn : Nat) (bb : Nat) (bv : Nat) (rl : Nat) (kn : Nat) (kp : Nat) (hm : Int32) (sp : Int32) (td : Int32) (dt : Int32) (wo : Nat → Int32) (sg : Int32) (h_nx : nx ≤ tl) (h_tl : tl ≤ 160) : Ct l E yX3_takeWorth cX3_takeWorth 3 (Option.some FieldType.boolean) 3 65 0 0 [.ref t0, .int (sg)] [(t0, .inr (3, [.ref b0, .int (nI tl), .int (tf), .int (tp), .ref tb, .int (nI nx), .int (tk), .int (nI sa), .int (tv), .int (th), .int (tN), .int (tO), .int (tpd)])), (tb, .inl (E.2.1 0, 160, .inl (by_))), (b0, .inr (2, [.int (nI kn), .int (nI kp), .int (nI rl), .int (hm), .int (sp), .int (td), .int (dt), .ref bo, .ref bw, .ref bn, .ref bb, .ref bv])), (bv, .inl (E.2.1 1, 6, .inl (wo)))] (fun v wd => ∃ (tf_ : Int32) (tp_ : Int32) (tx_ : Nat) (tk_ : Int32) (ts_ : Nat) (tv_ : Int32) (tN_ : Int32) (tpd_ : Int32) (wo_ : Nat → Int32), v = some (.int (if (lnWorth by_ tl nx tpd).1 = 0 then 1 else 0)) ∧ wd = [(t0, .inr (3, [.ref b0, .int (nI tl), .int (tf_), .int (tp_), .ref tb, .int (nI tx_), .int (tk_), .int (nI ts_), .int (tv_), .int (th), .int (tN_), .int (tO), .int (tpd_)])), (tb, .inl (E.2.1 0, 160, .inl (by_))), (b0, .inr (2, [.int (nI kn), .int (nI kp), .int (nI rl), .int (hm), .int (sp), .int (td), .int (dt), .ref bo, .ref bw, .ref bn, .ref bb, .ref bv])), (bv, .inl (E.2.1 1, 6, .inl (wo_)))] ∧ ((lnWorth by_ tl nx tpd).1 = 0 → tf_ = tf ∧ tx_ = (lnWorth by_ tl nx tpd).2 ∧ wo_ = upd wo (Int32.toNatClampNeg (tkV by_ tl nx 0)) (sg * tkV by_ tl (tkN by_ tl nx) 0) ∧ tN_ = tN ||| ((1 : Int32) <<< (tkV by_ tl nx 0 &&& 31)) ∧ tpd_ = tpd ||| ((1 : Int32) <<< (tkV by_ tl nx 0 &&& 31))) ∧ (¬ (lnWorth by_ tl nx tpd).1 = 0 → tf_ = (lnWorth by_ tl nx tpd).1 ∧ tp_ = nI (lnWorth by_ tl nx tpd).2) ∧ (tx_ ≤ tl)) := by
  refine Ct.of (own := RX3) (nm := "takeWorth") (lv := [(0, .ref t0), (1, .int (sg))]) (by decide) rfl rfl (Nat.le_of_ble_eq_true rfl) rfl ?_
  refine v_aload_n (pc := 0) 0 dX3_takeWorth_0 rfl rfl ?_
  refine v_callV (pc := 1) (rest := []) [0, 1] 0 lk_301 (c_X3_takeToken l E t0 b0 tb tl nx sa tf tp tk tv th tN tO tpd by_ (by first | assumption | omega) (by first | assumption | omega)) dX3_takeWorth_1 rfl rfl (Nat.le_of_ble_eq_true rfl) (by decide) rfl rfl rfl (by decide) rfl (Rt.len rfl) (Rt.go ?_)
  refine v_w (ws' := [(t0, .inr (3, [.ref b0, .int (nI tl), .int (if tkO by_ tl nx = true then tf else 1), .int (if tkO by_ tl nx = true then tp else nI (tkS by_ tl nx)), .ref tb, .int (nI (tkN by_ tl nx)), .int (tkK by_ tl nx), .int (nI (tkS by_ tl nx)), .int (tkV by_ tl nx tv), .int (th), .int (tN), .int (tO), .int (tpd)])), (tb, .inl (E.2.1 0, 160, .inl (by_))), (b0, .inr (2, [.int (nI kn), .int (nI kp), .int (nI rl), .int (hm), .int (sp), .int (td), .int (dt), .ref bo, .ref bw, .ref bn, .ref bb, .ref bv])), (bv, .inl (E.2.1 1, 6, .inl (wo)))]) rfl ?_
  refine v_st (st' := [.int (if tkO by_ tl nx = true then 1 else 0)]) rfl ?_
  refine v_ifB_eq (pc := 4) 18 dX3_takeWorth_4 (by decide) (fun c_4 => ?_) (fun c_4 => ?_)
  · skip
    refine v_iconst (pc := 18) (v := 0) dX3_takeWorth_18 (by decide) ?_
    refine v_zret (pc := 19) dX3_takeWorth_19 rfl rfl ⟨rfl, rfl⟩ ⟨(if tkO by_ tl nx = true then tf else 1), (if tkO by_ tl nx = true then tp else nI (tkS by_ tl nx)), (tkN by_ tl nx), (tkK by_ tl nx), (tkS by_ tl nx), (tkV by_ tl nx tv), (tN), (tpd), (wo), ?_, rfl, ?_, ?_, ?_⟩
    · skip
      have hc : lnWorth by_ tl nx tpd = (1, tkS by_ tl nx) := by exact ckA_t c_4
      rw [hc]; rfl
    · skip
      have hc : lnWorth by_ tl nx tpd = (1, tkS by_ tl nx) := by exact ckA_t c_4
      rw [hc]; exact fun q => absurd q (show ¬ (1 : Int32) = 0 by decide)
    · skip
      have hc : lnWorth by_ tl nx tpd = (1, tkS by_ tl nx) := by exact ckA_t c_4
      rw [hc]; exact fun _ => ⟨if_neg c_4, if_neg c_4⟩
    · skip
      exact (tkN_b h_nx).2
  · skip
    refine v_aload_n (pc := 7) 0 dX3_takeWorth_7 rfl rfl ?_
    refine v_aload_n (pc := 8) 0 dX3_takeWorth_8 rfl rfl ?_
    refine gf_192 (pc := 9) 0 dX3_takeWorth_9 rfl rfl ?_
    refine v_callV (pc := 12) (rest := []) [0] 0 lk_393 (c_X3_isNoteNotIn l E t0 b0 tb tl (tkN by_ tl nx) (tkS by_ tl nx) (if tkO by_ tl nx = true then tf else 1) (if tkO by_ tl nx = true then tp else nI (tkS by_ tl nx)) (tkK by_ tl nx) (tkV by_ tl nx tv) th tN tO tpd tpd) dX3_takeWorth_12 rfl rfl (Nat.le_of_ble_eq_true rfl) (by decide) rfl rfl rfl (by decide) rfl (Rt.len rfl) (Rt.go ?_)
    refine v_w (ws' := [(t0, .inr (3, [.ref b0, .int (nI tl), .int (if ntC (tkK by_ tl nx) (tkV by_ tl nx tv) tpd = 0 then (if tkO by_ tl nx = true then tf else 1) else ntC (tkK by_ tl nx) (tkV by_ tl nx tv) tpd), .int (if ntC (tkK by_ tl nx) (tkV by_ tl nx tv) tpd = 0 then (if tkO by_ tl nx = true then tp else nI (tkS by_ tl nx)) else nI (tkS by_ tl nx)), .ref tb, .int (nI (tkN by_ tl nx)), .int ((tkK by_ tl nx)), .int (nI (tkS by_ tl nx)), .int ((tkV by_ tl nx tv)), .int (th), .int (if numC (tkK by_ tl nx) (tkV by_ tl nx tv) 0 5 = 0 then tN ||| ((1 : Int32) <<< ((tkV by_ tl nx tv) &&& 31)) else tN), .int (tO), .int (tpd)])), (tb, .inl (E.2.1 0, 160, .inl (by_))), (b0, .inr (2, [.int (nI kn), .int (nI kp), .int (nI rl), .int (hm), .int (sp), .int (td), .int (dt), .ref bo, .ref bw, .ref bn, .ref bb, .ref bv])), (bv, .inl (E.2.1 1, 6, .inl (wo)))]) rfl ?_
    refine v_st (st' := [.int (if ntC (tkK by_ tl nx) (tkV by_ tl nx tv) tpd = 0 then 1 else 0)]) rfl ?_
    refine v_ifB_ne (pc := 15) 20 dX3_takeWorth_15 (by decide) (fun c_15 => ?_) (fun c_15 => ?_)
    · skip
      obtain ⟨hcA, hnA, hvA, hqA⟩ := ckA_ok (k := ckN by_ tl (tkN by_ tl nx) 0 9 (ckC by_ tl (tkN by_ tl (tkN by_ tl nx)))) tv c_4 c_15
      refine v_aload_n (pc := 20) 0 dX3_takeWorth_20 rfl rfl ?_
      refine gf_188 (pc := 21) 0 dX3_takeWorth_21 rfl rfl ?_
      refine v_st (st' := [.int (tkV by_ tl nx 0)]) (by rw [hvA]) ?_
      refine v_istore_n (pc := 24) (lv' := [(2, .int (tkV by_ tl nx 0)), (0, .ref t0), (1, .int (sg))]) dX3_takeWorth_24 rfl (by decide) rfl ?_
      refine v_aload_n (pc := 25) 1 dX3_takeWorth_25 rfl rfl ?_
      refine v_dup (pc := 26) dX3_takeWorth_26 rfl ?_
      refine gf_192 (pc := 27) 0 dX3_takeWorth_27 rfl rfl ?_
      refine v_iconst (pc := 30) (v := 1) dX3_takeWorth_30 (by decide) ?_
      refine v_iload_n (pc := 31) 0 dX3_takeWorth_31 rfl rfl ?_
      refine v_ishl (pc := 32) dX3_takeWorth_32 ?_
      refine v_ior (pc := 33) dX3_takeWorth_33 ?_
      refine pf_192 (pc := 34) (ws' := [(t0, .inr (3, [.ref b0, .int (nI tl), .int (if ntC (tkK by_ tl nx) (tkV by_ tl nx tv) tpd = 0 then (if tkO by_ tl nx = true then tf else 1) else ntC (tkK by_ tl nx) (tkV by_ tl nx tv) tpd), .int (if ntC (tkK by_ tl nx) (tkV by_ tl nx tv) tpd = 0 then (if tkO by_ tl nx = true then tp else nI (tkS by_ tl nx)) else nI (tkS by_ tl nx)), .ref tb, .int (nI (tkN by_ tl nx)), .int ((tkK by_ tl nx)), .int (nI (tkS by_ tl nx)), .int ((tkV by_ tl nx tv)), .int (th), .int (if numC (tkK by_ tl nx) (tkV by_ tl nx tv) 0 5 = 0 then tN ||| ((1 : Int32) <<< ((tkV by_ tl nx tv) &&& 31)) else tN), .int (tO), .int ((tpd) ||| ((1 : Int32) <<< ((tkV by_ tl nx 0) &&& 31)))])), (tb, .inl (E.2.1 0, 160, .inl (by_))), (b0, .inr (2, [.int (nI kn), .int (nI kp), .int (nI rl), .int (hm), .int (sp), .int (td), .int (dt), .ref bo, .ref bw, .ref bn, .ref bb, .ref bv])), (bv, .inl (E.2.1 1, 6, .inl (wo)))]) 0 dX3_takeWorth_34 rfl rfl rfl (Nat.le_of_ble_eq_true rfl) rfl ?_
      refine v_aload_n (pc := 37) 1 dX3_takeWorth_37 rfl rfl ?_
      refine v_callV (pc := 38) (rest := []) [0, 1] 0 lk_301 (c_X3_takeToken l E t0 b0 tb tl (tkN by_ tl nx) (tkS by_ tl nx) (if ntC (tkK by_ tl nx) (tkV by_ tl nx tv) tpd = 0 then (if tkO by_ tl nx = true then tf else 1) else ntC (tkK by_ tl nx) (tkV by_ tl nx tv) tpd) (if ntC (tkK by_ tl nx) (tkV by_ tl nx tv) tpd = 0 then (if tkO by_ tl nx = true then tp else nI (tkS by_ tl nx)) else nI (tkS by_ tl nx)) (tkK by_ tl nx) (tkV by_ tl nx tv) th (if numC (tkK by_ tl nx) (tkV by_ tl nx tv) 0 5 = 0 then tN ||| ((1 : Int32) <<< ((tkV by_ tl nx tv) &&& 31)) else tN) tO ((tpd) ||| ((1 : Int32) <<< ((tkV by_ tl nx 0) &&& 31))) by_ (tkN_b h_nx).2 h_tl) dX3_takeWorth_38 rfl rfl (Nat.le_of_ble_eq_true rfl) (by decide) rfl rfl rfl (by decide) rfl (Rt.len rfl) (Rt.go ?_)
      refine v_w (ws' := [(t0, .inr (3, [.ref b0, .int (nI tl), .int (if tkO by_ tl (tkN by_ tl nx) = true then (if ntC (tkK by_ tl nx) (tkV by_ tl nx tv) tpd = 0 then (if tkO by_ tl nx = true then tf else 1) else ntC (tkK by_ tl nx) (tkV by_ tl nx tv) tpd) else 1), .int (if tkO by_ tl (tkN by_ tl nx) = true then (if ntC (tkK by_ tl nx) (tkV by_ tl nx tv) tpd = 0 then (if tkO by_ tl nx = true then tp else nI (tkS by_ tl nx)) else nI (tkS by_ tl nx)) else nI (tkS by_ tl (tkN by_ tl nx))), .ref tb, .int (nI (tkN by_ tl (tkN by_ tl nx))), .int (tkK by_ tl (tkN by_ tl nx)), .int (nI (tkS by_ tl (tkN by_ tl nx))), .int (tkV by_ tl (tkN by_ tl nx) (tkV by_ tl nx tv)), .int (th), .int ((if numC (tkK by_ tl nx) (tkV by_ tl nx tv) 0 5 = 0 then tN ||| ((1 : Int32) <<< ((tkV by_ tl nx tv) &&& 31)) else tN)), .int (tO), .int (((tpd) ||| ((1 : Int32) <<< ((tkV by_ tl nx 0) &&& 31))))])), (tb, .inl (E.2.1 0, 160, .inl (by_))), (b0, .inr (2, [.int (nI kn), .int (nI kp), .int (nI rl), .int (hm), .int (sp), .int (td), .int (dt), .ref bo, .ref bw, .ref bn, .ref bb, .ref bv])), (bv, .inl (E.2.1 1, 6, .inl (wo)))]) rfl ?_
      refine v_st (st' := [.int (if tkO by_ tl (tkN by_ tl nx) = true then 1 else 0)]) rfl ?_
      refine v_ifB_eq (pc := 41) 54 dX3_takeWorth_41 (by decide) (fun c_41 => ?_) (fun c_41 => ?_)
      · skip
        refine v_iconst (pc := 54) (v := 0) dX3_takeWorth_54 (by decide) ?_
        refine v_zret (pc := 55) dX3_takeWorth_55 rfl rfl ⟨rfl, rfl⟩ ⟨(if tkO by_ tl (tkN by_ tl nx) = true then (if ntC (tkK by_ tl nx) (tkV by_ tl nx tv) tpd = 0 then (if tkO by_ tl nx = true then tf else 1) else ntC (tkK by_ tl nx) (tkV by_ tl nx tv) tpd) else 1), (if tkO by_ tl (tkN by_ tl nx) = true then (if ntC (tkK by_ tl nx) (tkV by_ tl nx tv) tpd = 0 then (if tkO by_ tl nx = true then tp else nI (tkS by_ tl nx)) else nI (tkS by_ tl nx)) else nI (tkS by_ tl (tkN by_ tl nx))), (tkN by_ tl (tkN by_ tl nx)), (tkK by_ tl (tkN by_ tl nx)), (tkS by_ tl (tkN by_ tl nx)), (tkV by_ tl (tkN by_ tl nx) (tkV by_ tl nx tv)), ((if numC (tkK by_ tl nx) (tkV by_ tl nx tv) 0 5 = 0 then tN ||| ((1 : Int32) <<< ((tkV by_ tl nx tv) &&& 31)) else tN)), (((tpd) ||| ((1 : Int32) <<< ((tkV by_ tl nx 0) &&& 31)))), (wo), ?_, rfl, ?_, ?_, ?_⟩
        · skip
          have hc : lnWorth by_ tl nx tpd = (1, tkS by_ tl (tkN by_ tl nx)) := by exact hcA.trans (ckN_t c_41)
          rw [hc]; rfl
        · skip
          have hc : lnWorth by_ tl nx tpd = (1, tkS by_ tl (tkN by_ tl nx)) := by exact hcA.trans (ckN_t c_41)
          rw [hc]; exact fun q => absurd q (show ¬ (1 : Int32) = 0 by decide)
        · skip
          have hc : lnWorth by_ tl nx tpd = (1, tkS by_ tl (tkN by_ tl nx)) := by exact hcA.trans (ckN_t c_41)
          rw [hc]; exact fun _ => ⟨if_neg c_41, if_neg c_41⟩
        · skip
          exact (tkN_b (tkN_b h_nx).2).2
      · skip
        refine v_aload_n (pc := 44) 1 dX3_takeWorth_44 rfl rfl ?_
        refine v_iconst (pc := 45) (v := 0) dX3_takeWorth_45 (by decide) ?_
        refine v_bipush (pc := 46) (v := 9) dX3_takeWorth_46 (by decide) ?_
        refine v_callV (pc := 48) (rest := []) [0] 0 lk_376 (c_X3_isNumber l E t0 b0 tb tl (tkN by_ tl (tkN by_ tl nx)) (tkS by_ tl (tkN by_ tl nx)) (if tkO by_ tl (tkN by_ tl nx) = true then (if ntC (tkK by_ tl nx) (tkV by_ tl nx tv) tpd = 0 then (if tkO by_ tl nx = true then tf else 1) else ntC (tkK by_ tl nx) (tkV by_ tl nx tv) tpd) else 1) (if tkO by_ tl (tkN by_ tl nx) = true then (if ntC (tkK by_ tl nx) (tkV by_ tl nx tv) tpd = 0 then (if tkO by_ tl nx = true then tp else nI (tkS by_ tl nx)) else nI (tkS by_ tl nx)) else nI (tkS by_ tl (tkN by_ tl nx))) (tkK by_ tl (tkN by_ tl nx)) (tkV by_ tl (tkN by_ tl nx) (tkV by_ tl nx tv)) th (if numC (tkK by_ tl nx) (tkV by_ tl nx tv) 0 5 = 0 then tN ||| ((1 : Int32) <<< ((tkV by_ tl nx tv) &&& 31)) else tN) tO ((tpd) ||| ((1 : Int32) <<< ((tkV by_ tl nx 0) &&& 31))) 0 9) dX3_takeWorth_48 rfl rfl (Nat.le_of_ble_eq_true rfl) (by decide) rfl rfl rfl (by decide) rfl (Rt.len rfl) (Rt.go ?_)
        refine v_w (ws' := [(t0, .inr (3, [.ref b0, .int (nI tl), .int (if numC (tkK by_ tl (tkN by_ tl nx)) (tkV by_ tl (tkN by_ tl nx) (tkV by_ tl nx tv)) 0 9 = 0 then (if tkO by_ tl (tkN by_ tl nx) = true then (if ntC (tkK by_ tl nx) (tkV by_ tl nx tv) tpd = 0 then (if tkO by_ tl nx = true then tf else 1) else ntC (tkK by_ tl nx) (tkV by_ tl nx tv) tpd) else 1) else numC (tkK by_ tl (tkN by_ tl nx)) (tkV by_ tl (tkN by_ tl nx) (tkV by_ tl nx tv)) 0 9), .int (if numC (tkK by_ tl (tkN by_ tl nx)) (tkV by_ tl (tkN by_ tl nx) (tkV by_ tl nx tv)) 0 9 = 0 then (if tkO by_ tl (tkN by_ tl nx) = true then (if ntC (tkK by_ tl nx) (tkV by_ tl nx tv) tpd = 0 then (if tkO by_ tl nx = true then tp else nI (tkS by_ tl nx)) else nI (tkS by_ tl nx)) else nI (tkS by_ tl (tkN by_ tl nx))) else nI (tkS by_ tl (tkN by_ tl nx))), .ref tb, .int (nI (tkN by_ tl (tkN by_ tl nx))), .int ((tkK by_ tl (tkN by_ tl nx))), .int (nI (tkS by_ tl (tkN by_ tl nx))), .int ((tkV by_ tl (tkN by_ tl nx) (tkV by_ tl nx tv))), .int (th), .int ((if numC (tkK by_ tl nx) (tkV by_ tl nx tv) 0 5 = 0 then tN ||| ((1 : Int32) <<< ((tkV by_ tl nx tv) &&& 31)) else tN)), .int (tO), .int (((tpd) ||| ((1 : Int32) <<< ((tkV by_ tl nx 0) &&& 31))))])), (tb, .inl (E.2.1 0, 160, .inl (by_))), (b0, .inr (2, [.int (nI kn), .int (nI kp), .int (nI rl), .int (hm), .int (sp), .int (td), .int (dt), .ref bo, .ref bw, .ref bn, .ref bb, .ref bv])), (bv, .inl (E.2.1 1, 6, .inl (wo)))]) rfl ?_
        refine v_st (st' := [.int (if numC (tkK by_ tl (tkN by_ tl nx)) (tkV by_ tl (tkN by_ tl nx) (tkV by_ tl nx tv)) 0 9 = 0 then 1 else 0)]) rfl ?_
        refine v_ifB_ne (pc := 51) 56 dX3_takeWorth_51 (by decide) (fun c_51 => ?_) (fun c_51 => ?_)
        · skip
          refine v_aload_n (pc := 56) 1 dX3_takeWorth_56 rfl rfl ?_
          refine gf_176 (pc := 57) 0 dX3_takeWorth_57 rfl rfl ?_
          refine gf_125 (pc := 60) 2 dX3_takeWorth_60 rfl rfl ?_
          refine v_iload_n (pc := 63) 0 dX3_takeWorth_63 rfl rfl ?_
          refine v_iload_n (pc := 64) 2 dX3_takeWorth_64 rfl rfl ?_
          refine v_aload_n (pc := 65) 1 dX3_takeWorth_65 rfl rfl ?_
          refine gf_188 (pc := 66) 0 dX3_takeWorth_66 rfl rfl ?_
          refine v_imul (pc := 69) dX3_takeWorth_69 ?_
          refine v_iast (pc := 70) (ws' := [(t0, .inr (3, [.ref b0, .int (nI tl), .int (if numC (tkK by_ tl (tkN by_ tl nx)) (tkV by_ tl (tkN by_ tl nx) (tkV by_ tl nx tv)) 0 9 = 0 then (if tkO by_ tl (tkN by_ tl nx) = true then (if ntC (tkK by_ tl nx) (tkV by_ tl nx tv) tpd = 0 then (if tkO by_ tl nx = true then tf else 1) else ntC (tkK by_ tl nx) (tkV by_ tl nx tv) tpd) else 1) else numC (tkK by_ tl (tkN by_ tl nx)) (tkV by_ tl (tkN by_ tl nx) (tkV by_ tl nx tv)) 0 9), .int (if numC (tkK by_ tl (tkN by_ tl nx)) (tkV by_ tl (tkN by_ tl nx) (tkV by_ tl nx tv)) 0 9 = 0 then (if tkO by_ tl (tkN by_ tl nx) = true then (if ntC (tkK by_ tl nx) (tkV by_ tl nx tv) tpd = 0 then (if tkO by_ tl nx = true then tp else nI (tkS by_ tl nx)) else nI (tkS by_ tl nx)) else nI (tkS by_ tl (tkN by_ tl nx))) else nI (tkS by_ tl (tkN by_ tl nx))), .ref tb, .int (nI (tkN by_ tl (tkN by_ tl nx))), .int ((tkK by_ tl (tkN by_ tl nx))), .int (nI (tkS by_ tl (tkN by_ tl nx))), .int ((tkV by_ tl (tkN by_ tl nx) (tkV by_ tl nx tv))), .int (th), .int ((if numC (tkK by_ tl nx) (tkV by_ tl nx tv) 0 5 = 0 then tN ||| ((1 : Int32) <<< ((tkV by_ tl nx tv) &&& 31)) else tN)), .int (tO), .int (((tpd) ||| ((1 : Int32) <<< ((tkV by_ tl nx 0) &&& 31))))])), (tb, .inl (E.2.1 0, 160, .inl (by_))), (b0, .inr (2, [.int (nI kn), .int (nI kp), .int (nI rl), .int (hm), .int (sp), .int (td), .int (dt), .ref bo, .ref bw, .ref bn, .ref bb, .ref bv])), (bv, .inl (E.2.1 1, 6, .inl (upd (wo) (Int32.toNatClampNeg (tkV by_ tl nx 0)) ((sg) * ((tkV by_ tl (tkN by_ tl nx) (tkV by_ tl nx tv)))))))]) 3 1 dX3_takeWorth_70 rfl rfl (nuC_in hnA) rfl ?_
          refine v_aload_n (pc := 71) 1 dX3_takeWorth_71 rfl rfl ?_
          refine v_callV (pc := 72) (rest := []) [0, 1] 0 lk_380 (c_X3_takeClosing l E t0 b0 tb tl (tkN by_ tl (tkN by_ tl nx)) (tkS by_ tl (tkN by_ tl nx)) (if numC (tkK by_ tl (tkN by_ tl nx)) (tkV by_ tl (tkN by_ tl nx) (tkV by_ tl nx tv)) 0 9 = 0 then (if tkO by_ tl (tkN by_ tl nx) = true then (if ntC (tkK by_ tl nx) (tkV by_ tl nx tv) tpd = 0 then (if tkO by_ tl nx = true then tf else 1) else ntC (tkK by_ tl nx) (tkV by_ tl nx tv) tpd) else 1) else numC (tkK by_ tl (tkN by_ tl nx)) (tkV by_ tl (tkN by_ tl nx) (tkV by_ tl nx tv)) 0 9) (if numC (tkK by_ tl (tkN by_ tl nx)) (tkV by_ tl (tkN by_ tl nx) (tkV by_ tl nx tv)) 0 9 = 0 then (if tkO by_ tl (tkN by_ tl nx) = true then (if ntC (tkK by_ tl nx) (tkV by_ tl nx tv) tpd = 0 then (if tkO by_ tl nx = true then tp else nI (tkS by_ tl nx)) else nI (tkS by_ tl nx)) else nI (tkS by_ tl (tkN by_ tl nx))) else nI (tkS by_ tl (tkN by_ tl nx))) (tkK by_ tl (tkN by_ tl nx)) (tkV by_ tl (tkN by_ tl nx) (tkV by_ tl nx tv)) th (if numC (tkK by_ tl nx) (tkV by_ tl nx tv) 0 5 = 0 then tN ||| ((1 : Int32) <<< ((tkV by_ tl nx tv) &&& 31)) else tN) tO ((tpd) ||| ((1 : Int32) <<< ((tkV by_ tl nx 0) &&& 31))) by_ (tkN_b (tkN_b h_nx).2).2 h_tl) dX3_takeWorth_72 rfl rfl (Nat.le_of_ble_eq_true rfl) (by decide) rfl rfl rfl (by decide) rfl (by rintro _ _ ⟨_, _, _, _, _, _, _, rfl, _⟩; rfl) ?_
          rintro _ _ ⟨tf_72, tp_72, tx_72, tk_72, ts_72, tv_72, rfl, rfl, hf72_0, hf72_1, hf72_2⟩
          refine v_w (ws' := [(t0, .inr (3, [.ref b0, .int (nI tl), .int (tf_72), .int (tp_72), .ref tb, .int (nI tx_72), .int (tk_72), .int (nI ts_72), .int (tv_72), .int (th), .int ((if numC (tkK by_ tl nx) (tkV by_ tl nx tv) 0 5 = 0 then tN ||| ((1 : Int32) <<< ((tkV by_ tl nx tv) &&& 31)) else tN)), .int (tO), .int (((tpd) ||| ((1 : Int32) <<< ((tkV by_ tl nx 0) &&& 31))))])), (tb, .inl (E.2.1 0, 160, .inl (by_))), (b0, .inr (2, [.int (nI kn), .int (nI kp), .int (nI rl), .int (hm), .int (sp), .int (td), .int (dt), .ref bo, .ref bw, .ref bn, .ref bb, .ref bv])), (bv, .inl (E.2.1 1, 6, .inl (upd (wo) (Int32.toNatClampNeg (tkV by_ tl nx 0)) ((sg) * ((tkV by_ tl (tkN by_ tl nx) (tkV by_ tl nx tv)))))))]) rfl ?_
          refine v_st (st' := [.int (if (ckC by_ tl (tkN by_ tl (tkN by_ tl nx))).1 = 0 then 1 else 0)]) rfl ?_
          refine v_zret (pc := 75) dX3_takeWorth_75 rfl (zn01 _) ⟨rfl, rfl⟩ ⟨(tf_72), (tp_72), (tx_72), (tk_72), (ts_72), (tv_72), ((if numC (tkK by_ tl nx) (tkV by_ tl nx tv) 0 5 = 0 then tN ||| ((1 : Int32) <<< ((tkV by_ tl nx tv) &&& 31)) else tN)), (((tpd) ||| ((1 : Int32) <<< ((tkV by_ tl nx 0) &&& 31)))), (upd (wo) (Int32.toNatClampNeg (tkV by_ tl nx 0)) ((sg) * ((tkV by_ tl (tkN by_ tl nx) (tkV by_ tl nx tv))))), ?_, rfl, ?_, ?_, ?_⟩
          · skip
            obtain ⟨h1, h2, h3⟩ := ckN_ok (k := ckC by_ tl (tkN by_ tl (tkN by_ tl nx))) _ c_41 c_51
            have hc : lnWorth by_ tl nx tpd = ckC by_ tl (tkN by_ tl (tkN by_ tl nx)) := hcA.trans h1
            rw [hc]
          · skip
            obtain ⟨h1, h2, h3⟩ := ckN_ok (k := ckC by_ tl (tkN by_ tl (tkN by_ tl nx))) _ c_41 c_51
            have hc : lnWorth by_ tl nx tpd = ckC by_ tl (tkN by_ tl (tkN by_ tl nx)) := hcA.trans h1
            rw [hc]; exact fun q => ⟨(hf72_0 q).1.trans (by rw [if_pos c_51, if_pos c_41, if_pos c_15, if_pos c_4]), (hf72_0 q).2, by rw [h3], by rw [if_pos hqA, hvA], rfl⟩
          · skip
            obtain ⟨h1, h2, h3⟩ := ckN_ok (k := ckC by_ tl (tkN by_ tl (tkN by_ tl nx))) _ c_41 c_51
            have hc : lnWorth by_ tl nx tpd = ckC by_ tl (tkN by_ tl (tkN by_ tl nx)) := hcA.trans h1
            rw [hc]; exact hf72_1
          · skip
            exact hf72_2
        · skip
          refine v_iconst (pc := 54) (v := 0) dX3_takeWorth_54 (by decide) ?_
          refine v_zret (pc := 55) dX3_takeWorth_55 rfl rfl ⟨rfl, rfl⟩ ⟨(if numC (tkK by_ tl (tkN by_ tl nx)) (tkV by_ tl (tkN by_ tl nx) (tkV by_ tl nx tv)) 0 9 = 0 then (if tkO by_ tl (tkN by_ tl nx) = true then (if ntC (tkK by_ tl nx) (tkV by_ tl nx tv) tpd = 0 then (if tkO by_ tl nx = true then tf else 1) else ntC (tkK by_ tl nx) (tkV by_ tl nx tv) tpd) else 1) else numC (tkK by_ tl (tkN by_ tl nx)) (tkV by_ tl (tkN by_ tl nx) (tkV by_ tl nx tv)) 0 9), (if numC (tkK by_ tl (tkN by_ tl nx)) (tkV by_ tl (tkN by_ tl nx) (tkV by_ tl nx tv)) 0 9 = 0 then (if tkO by_ tl (tkN by_ tl nx) = true then (if ntC (tkK by_ tl nx) (tkV by_ tl nx tv) tpd = 0 then (if tkO by_ tl nx = true then tp else nI (tkS by_ tl nx)) else nI (tkS by_ tl nx)) else nI (tkS by_ tl (tkN by_ tl nx))) else nI (tkS by_ tl (tkN by_ tl nx))), (tkN by_ tl (tkN by_ tl nx)), ((tkK by_ tl (tkN by_ tl nx))), (tkS by_ tl (tkN by_ tl nx)), ((tkV by_ tl (tkN by_ tl nx) (tkV by_ tl nx tv))), ((if numC (tkK by_ tl nx) (tkV by_ tl nx tv) 0 5 = 0 then tN ||| ((1 : Int32) <<< ((tkV by_ tl nx tv) &&& 31)) else tN)), (((tpd) ||| ((1 : Int32) <<< ((tkV by_ tl nx 0) &&& 31)))), (wo), ?_, rfl, ?_, ?_, ?_⟩
          · skip
            have hnz : ¬ numC (tkK by_ tl (tkN by_ tl nx)) (tkV by_ tl (tkN by_ tl nx) (tkV by_ tl nx tv)) 0 9 = 0 := c_51
            have hc : lnWorth by_ tl nx tpd = (numC (tkK by_ tl (tkN by_ tl nx)) (tkV by_ tl (tkN by_ tl nx) (tkV by_ tl nx tv)) 0 9, tkS by_ tl (tkN by_ tl nx)) := by exact hcA.trans (ckN_no _ c_41 c_51)
            rw [hc]; exact congrArg (fun z => some (Value.int z)) (if_neg hnz).symm
          · skip
            have hnz : ¬ numC (tkK by_ tl (tkN by_ tl nx)) (tkV by_ tl (tkN by_ tl nx) (tkV by_ tl nx tv)) 0 9 = 0 := c_51
            have hc : lnWorth by_ tl nx tpd = (numC (tkK by_ tl (tkN by_ tl nx)) (tkV by_ tl (tkN by_ tl nx) (tkV by_ tl nx tv)) 0 9, tkS by_ tl (tkN by_ tl nx)) := by exact hcA.trans (ckN_no _ c_41 c_51)
            rw [hc]; exact fun q => absurd q hnz
          · skip
            have hnz : ¬ numC (tkK by_ tl (tkN by_ tl nx)) (tkV by_ tl (tkN by_ tl nx) (tkV by_ tl nx tv)) 0 9 = 0 := c_51
            have hc : lnWorth by_ tl nx tpd = (numC (tkK by_ tl (tkN by_ tl nx)) (tkV by_ tl (tkN by_ tl nx) (tkV by_ tl nx tv)) 0 9, tkS by_ tl (tkN by_ tl nx)) := by exact hcA.trans (ckN_no _ c_41 c_51)
            rw [hc]; exact fun _ => ⟨if_neg c_51, if_neg c_51⟩
          · skip
            exact (tkN_b (tkN_b h_nx).2).2
    · skip
      refine v_iconst (pc := 18) (v := 0) dX3_takeWorth_18 (by decide) ?_
      refine v_zret (pc := 19) dX3_takeWorth_19 rfl rfl ⟨rfl, rfl⟩ ⟨(if ntC (tkK by_ tl nx) (tkV by_ tl nx tv) tpd = 0 then (if tkO by_ tl nx = true then tf else 1) else ntC (tkK by_ tl nx) (tkV by_ tl nx tv) tpd), (if ntC (tkK by_ tl nx) (tkV by_ tl nx tv) tpd = 0 then (if tkO by_ tl nx = true then tp else nI (tkS by_ tl nx)) else nI (tkS by_ tl nx)), (tkN by_ tl nx), ((tkK by_ tl nx)), (tkS by_ tl nx), ((tkV by_ tl nx tv)), (if numC (tkK by_ tl nx) (tkV by_ tl nx tv) 0 5 = 0 then tN ||| ((1 : Int32) <<< ((tkV by_ tl nx tv) &&& 31)) else tN), (tpd), (wo), ?_, rfl, ?_, ?_, ?_⟩
      · skip
        have hnz : ¬ ntC (tkK by_ tl nx) (tkV by_ tl nx tv) tpd = 0 := c_15
        have hc : lnWorth by_ tl nx tpd = (ntC (tkK by_ tl nx) (tkV by_ tl nx tv) tpd, tkS by_ tl nx) := by exact ckA_no tv c_4 c_15
        rw [hc]; exact congrArg (fun z => some (Value.int z)) (if_neg hnz).symm
      · skip
        have hnz : ¬ ntC (tkK by_ tl nx) (tkV by_ tl nx tv) tpd = 0 := c_15
        have hc : lnWorth by_ tl nx tpd = (ntC (tkK by_ tl nx) (tkV by_ tl nx tv) tpd, tkS by_ tl nx) := by exact ckA_no tv c_4 c_15
        rw [hc]; exact fun q => absurd q hnz
      · skip
        have hnz : ¬ ntC (tkK by_ tl nx) (tkV by_ tl nx tv) tpd = 0 := c_15
        have hc : lnWorth by_ tl nx tpd = (ntC (tkK by_ tl nx) (tkV by_ tl nx tv) tpd, tkS by_ tl nx) := by exact ckA_no tv c_4 c_15
        rw [hc]; exact fun _ => ⟨if_neg c_15, if_neg c_15⟩
      · skip
        exact (tkN_b h_nx).2
theorem c_X3_takeStreet (l : Launch) (E : VE) (t0 : Nat) (b0 : Nat) (tb : Nat) (tl : Nat) (nx : Nat) (sa : Nat) (tf : Int32) (tp : Int32) (tk : Int32) (tv : Int32) (th : Int32) (tN : Int32) (tO : Int32) (tpd : Int32) (by_ : Nat → Int32) (bo : Nat) (bw : Nat) (bn : Nat) (bb : Nat) (bv : Nat) (rl : Nat) (kn : Nat) (kp : Nat) (hm : Int32) (sp : Int32) (td : Int32) (dt : Int32) (h_nx : nx ≤ tl) (h_tl : tl ≤ 160) : Ct l E yX3_takeStreet cX3_takeStreet 1 (Option.some FieldType.boolean) 3 62 0 0 [.ref t0] [(t0, .inr (3, [.ref b0, .int (nI tl), .int (tf), .int (tp), .ref tb, .int (nI nx), .int (tk), .int (nI sa), .int (tv), .int (th), .int (tN), .int (tO), .int (tpd)])), (tb, .inl (E.2.1 0, 160, .inl (by_))), (b0, .inr (2, [.int (nI kn), .int (nI kp), .int (nI rl), .int (hm), .int (sp), .int (td), .int (dt), .ref bo, .ref bw, .ref bn, .ref bb, .ref bv]))] (fun v wd => ∃ (tf_ : Int32) (tp_ : Int32) (tx_ : Nat) (tk_ : Int32) (ts_ : Nat) (tv_ : Int32) (th_ : Int32) (kn_ : Nat) (kp_ : Nat), v = some (.int (if (lnStreet by_ tl nx sa th).1 = 0 then 1 else 0)) ∧ wd = [(t0, .inr (3, [.ref b0, .int (nI tl), .int (tf_), .int (tp_), .ref tb, .int (nI tx_), .int (tk_), .int (nI ts_), .int (tv_), .int (th_), .int (tN), .int (tO), .int (tpd)])), (tb, .inl (E.2.1 0, 160, .inl (by_))), (b0, .inr (2, [.int (nI kn_), .int (nI kp_), .int (nI rl), .int (hm), .int (sp), .int (td), .int (dt), .ref bo, .ref bw, .ref bn, .ref bb, .ref bv]))] ∧ ((lnStreet by_ tl nx sa th).1 = 0 → tf_ = tf ∧ tx_ = (lnStreet by_ tl nx sa th).2 ∧ th_ = 1 ∧ kn_ = Int32.toNatClampNeg (tkV by_ tl nx 0) ∧ kp_ = Int32.toNatClampNeg (tkV by_ tl (tkN by_ tl nx) 0)) ∧ (¬ (lnStreet by_ tl nx sa th).1 = 0 → tf_ = (lnStreet by_ tl nx sa th).1 ∧ tp_ = nI (lnStreet by_ tl nx sa th).2) ∧ (tx_ ≤ tl)) := by
  refine Ct.of (own := RX3) (nm := "takeStreet") (lv := [(0, .ref t0)]) (by decide) rfl rfl (Nat.le_of_ble_eq_true rfl) rfl ?_
  refine v_aload_n (pc := 0) 0 dX3_takeStreet_0 rfl rfl ?_
  refine gf_189 (pc := 1) 0 dX3_takeStreet_1 rfl rfl ?_
  refine v_if_eq (pc := 4) 17 dX3_takeStreet_4 (by decide) (fun c_4 => ?_) (fun c_4 => ?_)
  · skip
    refine v_aload_n (pc := 17) 0 dX3_takeStreet_17 rfl rfl ?_
    refine v_iconst (pc := 18) (v := 1) dX3_takeStreet_18 (by decide) ?_
    refine pf_189 (pc := 19) (ws' := [(t0, .inr (3, [.ref b0, .int (nI tl), .int (tf), .int (tp), .ref tb, .int (nI nx), .int (tk), .int (nI sa), .int (tv), .int (1), .int (tN), .int (tO), .int (tpd)])), (tb, .inl (E.2.1 0, 160, .inl (by_))), (b0, .inr (2, [.int (nI kn), .int (nI kp), .int (nI rl), .int (hm), .int (sp), .int (td), .int (dt), .ref bo, .ref bw, .ref bn, .ref bb, .ref bv]))]) 0 dX3_takeStreet_19 rfl rfl rfl (Nat.le_of_ble_eq_true rfl) rfl ?_
    refine v_aload_n (pc := 22) 0 dX3_takeStreet_22 rfl rfl ?_
    refine v_callV (pc := 23) (rest := []) [0, 1] 0 lk_301 (c_X3_takeToken l E t0 b0 tb tl nx sa tf tp tk tv 1 tN tO tpd by_ (by first | assumption | omega) (by first | assumption | omega)) dX3_takeStreet_23 rfl rfl (Nat.le_of_ble_eq_true rfl) (by decide) rfl rfl rfl (by decide) rfl (Rt.len rfl) (Rt.go ?_)
    refine v_w (ws' := [(t0, .inr (3, [.ref b0, .int (nI tl), .int (if tkO by_ tl nx = true then tf else 1), .int (if tkO by_ tl nx = true then tp else nI (tkS by_ tl nx)), .ref tb, .int (nI (tkN by_ tl nx)), .int (tkK by_ tl nx), .int (nI (tkS by_ tl nx)), .int (tkV by_ tl nx tv), .int (1), .int (tN), .int (tO), .int (tpd)])), (tb, .inl (E.2.1 0, 160, .inl (by_))), (b0, .inr (2, [.int (nI kn), .int (nI kp), .int (nI rl), .int (hm), .int (sp), .int (td), .int (dt), .ref bo, .ref bw, .ref bn, .ref bb, .ref bv]))]) rfl ?_
    refine v_st (st' := [.int (if tkO by_ tl nx = true then 1 else 0)]) rfl ?_
    refine v_ifB_eq (pc := 26) 39 dX3_takeStreet_26 (by decide) (fun c_26 => ?_) (fun c_26 => ?_)
    · skip
      refine v_iconst (pc := 39) (v := 0) dX3_takeStreet_39 (by decide) ?_
      refine v_zret (pc := 40) dX3_takeStreet_40 rfl rfl ⟨rfl, rfl⟩ ⟨(if tkO by_ tl nx = true then tf else 1), (if tkO by_ tl nx = true then tp else nI (tkS by_ tl nx)), (tkN by_ tl nx), (tkK by_ tl nx), (tkS by_ tl nx), (tkV by_ tl nx tv), (1), (kn), (kp), ?_, rfl, ?_, ?_, ?_⟩
      · skip
        have hc : lnStreet by_ tl nx sa th = (1, tkS by_ tl nx) := by have ht : lnStreet by_ tl nx sa th = ckN by_ tl nx 1 6 (ckN by_ tl (tkN by_ tl nx) 1 4 (ckC by_ tl (tkN by_ tl (tkN by_ tl nx)))) := if_pos c_4; exact ht.trans (ckN_t c_26)
        rw [hc]; rfl
      · skip
        have hc : lnStreet by_ tl nx sa th = (1, tkS by_ tl nx) := by have ht : lnStreet by_ tl nx sa th = ckN by_ tl nx 1 6 (ckN by_ tl (tkN by_ tl nx) 1 4 (ckC by_ tl (tkN by_ tl (tkN by_ tl nx)))) := if_pos c_4; exact ht.trans (ckN_t c_26)
        rw [hc]; exact fun q => absurd q (show ¬ (1 : Int32) = 0 by decide)
      · skip
        have hc : lnStreet by_ tl nx sa th = (1, tkS by_ tl nx) := by have ht : lnStreet by_ tl nx sa th = ckN by_ tl nx 1 6 (ckN by_ tl (tkN by_ tl nx) 1 4 (ckC by_ tl (tkN by_ tl (tkN by_ tl nx)))) := if_pos c_4; exact ht.trans (ckN_t c_26)
        rw [hc]; exact fun _ => ⟨if_neg c_26, if_neg c_26⟩
      · skip
        exact (tkN_b h_nx).2
    · skip
      refine v_aload_n (pc := 29) 0 dX3_takeStreet_29 rfl rfl ?_
      refine v_iconst (pc := 30) (v := 1) dX3_takeStreet_30 (by decide) ?_
      refine v_bipush (pc := 31) (v := 6) dX3_takeStreet_31 (by decide) ?_
      refine v_callV (pc := 33) (rest := []) [0] 0 lk_376 (c_X3_isNumber l E t0 b0 tb tl (tkN by_ tl nx) (tkS by_ tl nx) (if tkO by_ tl nx = true then tf else 1) (if tkO by_ tl nx = true then tp else nI (tkS by_ tl nx)) (tkK by_ tl nx) (tkV by_ tl nx tv) 1 tN tO tpd 1 6) dX3_takeStreet_33 rfl rfl (Nat.le_of_ble_eq_true rfl) (by decide) rfl rfl rfl (by decide) rfl (Rt.len rfl) (Rt.go ?_)
      refine v_w (ws' := [(t0, .inr (3, [.ref b0, .int (nI tl), .int (if numC (tkK by_ tl nx) (tkV by_ tl nx tv) 1 6 = 0 then (if tkO by_ tl nx = true then tf else 1) else numC (tkK by_ tl nx) (tkV by_ tl nx tv) 1 6), .int (if numC (tkK by_ tl nx) (tkV by_ tl nx tv) 1 6 = 0 then (if tkO by_ tl nx = true then tp else nI (tkS by_ tl nx)) else nI (tkS by_ tl nx)), .ref tb, .int (nI (tkN by_ tl nx)), .int ((tkK by_ tl nx)), .int (nI (tkS by_ tl nx)), .int ((tkV by_ tl nx tv)), .int (1), .int (tN), .int (tO), .int (tpd)])), (tb, .inl (E.2.1 0, 160, .inl (by_))), (b0, .inr (2, [.int (nI kn), .int (nI kp), .int (nI rl), .int (hm), .int (sp), .int (td), .int (dt), .ref bo, .ref bw, .ref bn, .ref bb, .ref bv]))]) rfl ?_
      refine v_st (st' := [.int (if numC (tkK by_ tl nx) (tkV by_ tl nx tv) 1 6 = 0 then 1 else 0)]) rfl ?_
      refine v_ifB_ne (pc := 36) 41 dX3_takeStreet_36 (by decide) (fun c_36 => ?_) (fun c_36 => ?_)
      · skip
        obtain ⟨hcA, hnA, hvA⟩ := ckN_ok (k := ckN by_ tl (tkN by_ tl nx) 1 4 (ckC by_ tl (tkN by_ tl (tkN by_ tl nx)))) tv c_26 c_36
        refine v_aload_n (pc := 41) 0 dX3_takeStreet_41 rfl rfl ?_
        refine gf_176 (pc := 42) 0 dX3_takeStreet_42 rfl rfl ?_
        refine v_aload_n (pc := 45) 0 dX3_takeStreet_45 rfl rfl ?_
        refine gf_188 (pc := 46) 0 dX3_takeStreet_46 rfl rfl ?_
        refine v_st (st' := [.int (nI (Int32.toNatClampNeg (tkV by_ tl nx 0))), .ref b0]) (by rw [hvA, nuC_cl hnA (by decide)]) ?_
        refine pf_89 (pc := 49) (ws' := [(t0, .inr (3, [.ref b0, .int (nI tl), .int (if numC (tkK by_ tl nx) (tkV by_ tl nx tv) 1 6 = 0 then (if tkO by_ tl nx = true then tf else 1) else numC (tkK by_ tl nx) (tkV by_ tl nx tv) 1 6), .int (if numC (tkK by_ tl nx) (tkV by_ tl nx tv) 1 6 = 0 then (if tkO by_ tl nx = true then tp else nI (tkS by_ tl nx)) else nI (tkS by_ tl nx)), .ref tb, .int (nI (tkN by_ tl nx)), .int ((tkK by_ tl nx)), .int (nI (tkS by_ tl nx)), .int ((tkV by_ tl nx tv)), .int (1), .int (tN), .int (tO), .int (tpd)])), (tb, .inl (E.2.1 0, 160, .inl (by_))), (b0, .inr (2, [.int (nI (Int32.toNatClampNeg (tkV by_ tl nx 0))), .int (nI kp), .int (nI rl), .int (hm), .int (sp), .int (td), .int (dt), .ref bo, .ref bw, .ref bn, .ref bb, .ref bv]))]) 2 dX3_takeStreet_49 rfl rfl rfl (Nat.le_of_ble_eq_true rfl) rfl ?_
        refine v_aload_n (pc := 52) 0 dX3_takeStreet_52 rfl rfl ?_
        refine v_callV (pc := 53) (rest := []) [0, 1] 0 lk_301 (c_X3_takeToken l E t0 b0 tb tl (tkN by_ tl nx) (tkS by_ tl nx) (if numC (tkK by_ tl nx) (tkV by_ tl nx tv) 1 6 = 0 then (if tkO by_ tl nx = true then tf else 1) else numC (tkK by_ tl nx) (tkV by_ tl nx tv) 1 6) (if numC (tkK by_ tl nx) (tkV by_ tl nx tv) 1 6 = 0 then (if tkO by_ tl nx = true then tp else nI (tkS by_ tl nx)) else nI (tkS by_ tl nx)) (tkK by_ tl nx) (tkV by_ tl nx tv) 1 tN tO tpd by_ (tkN_b h_nx).2 h_tl) dX3_takeStreet_53 rfl rfl (Nat.le_of_ble_eq_true rfl) (by decide) rfl rfl rfl (by decide) rfl (Rt.len rfl) (Rt.go ?_)
        refine v_w (ws' := [(t0, .inr (3, [.ref b0, .int (nI tl), .int (if tkO by_ tl (tkN by_ tl nx) = true then (if numC (tkK by_ tl nx) (tkV by_ tl nx tv) 1 6 = 0 then (if tkO by_ tl nx = true then tf else 1) else numC (tkK by_ tl nx) (tkV by_ tl nx tv) 1 6) else 1), .int (if tkO by_ tl (tkN by_ tl nx) = true then (if numC (tkK by_ tl nx) (tkV by_ tl nx tv) 1 6 = 0 then (if tkO by_ tl nx = true then tp else nI (tkS by_ tl nx)) else nI (tkS by_ tl nx)) else nI (tkS by_ tl (tkN by_ tl nx))), .ref tb, .int (nI (tkN by_ tl (tkN by_ tl nx))), .int (tkK by_ tl (tkN by_ tl nx)), .int (nI (tkS by_ tl (tkN by_ tl nx))), .int (tkV by_ tl (tkN by_ tl nx) (tkV by_ tl nx tv)), .int (1), .int (tN), .int (tO), .int (tpd)])), (tb, .inl (E.2.1 0, 160, .inl (by_))), (b0, .inr (2, [.int (nI (Int32.toNatClampNeg (tkV by_ tl nx 0))), .int (nI kp), .int (nI rl), .int (hm), .int (sp), .int (td), .int (dt), .ref bo, .ref bw, .ref bn, .ref bb, .ref bv]))]) rfl ?_
        refine v_st (st' := [.int (if tkO by_ tl (tkN by_ tl nx) = true then 1 else 0)]) rfl ?_
        refine v_ifB_eq (pc := 56) 68 dX3_takeStreet_56 (by decide) (fun c_56 => ?_) (fun c_56 => ?_)
        · skip
          refine v_iconst (pc := 68) (v := 0) dX3_takeStreet_68 (by decide) ?_
          refine v_zret (pc := 69) dX3_takeStreet_69 rfl rfl ⟨rfl, rfl⟩ ⟨(if tkO by_ tl (tkN by_ tl nx) = true then (if numC (tkK by_ tl nx) (tkV by_ tl nx tv) 1 6 = 0 then (if tkO by_ tl nx = true then tf else 1) else numC (tkK by_ tl nx) (tkV by_ tl nx tv) 1 6) else 1), (if tkO by_ tl (tkN by_ tl nx) = true then (if numC (tkK by_ tl nx) (tkV by_ tl nx tv) 1 6 = 0 then (if tkO by_ tl nx = true then tp else nI (tkS by_ tl nx)) else nI (tkS by_ tl nx)) else nI (tkS by_ tl (tkN by_ tl nx))), (tkN by_ tl (tkN by_ tl nx)), (tkK by_ tl (tkN by_ tl nx)), (tkS by_ tl (tkN by_ tl nx)), (tkV by_ tl (tkN by_ tl nx) (tkV by_ tl nx tv)), (1), (Int32.toNatClampNeg (tkV by_ tl nx 0)), (kp), ?_, rfl, ?_, ?_, ?_⟩
          · skip
            have hc : lnStreet by_ tl nx sa th = (1, tkS by_ tl (tkN by_ tl nx)) := by have ht : lnStreet by_ tl nx sa th = ckN by_ tl nx 1 6 (ckN by_ tl (tkN by_ tl nx) 1 4 (ckC by_ tl (tkN by_ tl (tkN by_ tl nx)))) := if_pos c_4; exact (ht.trans hcA).trans (ckN_t c_56)
            rw [hc]; rfl
          · skip
            have hc : lnStreet by_ tl nx sa th = (1, tkS by_ tl (tkN by_ tl nx)) := by have ht : lnStreet by_ tl nx sa th = ckN by_ tl nx 1 6 (ckN by_ tl (tkN by_ tl nx) 1 4 (ckC by_ tl (tkN by_ tl (tkN by_ tl nx)))) := if_pos c_4; exact (ht.trans hcA).trans (ckN_t c_56)
            rw [hc]; exact fun q => absurd q (show ¬ (1 : Int32) = 0 by decide)
          · skip
            have hc : lnStreet by_ tl nx sa th = (1, tkS by_ tl (tkN by_ tl nx)) := by have ht : lnStreet by_ tl nx sa th = ckN by_ tl nx 1 6 (ckN by_ tl (tkN by_ tl nx) 1 4 (ckC by_ tl (tkN by_ tl (tkN by_ tl nx)))) := if_pos c_4; exact (ht.trans hcA).trans (ckN_t c_56)
            rw [hc]; exact fun _ => ⟨if_neg c_56, if_neg c_56⟩
          · skip
            exact (tkN_b (tkN_b h_nx).2).2
        · skip
          refine v_aload_n (pc := 59) 0 dX3_takeStreet_59 rfl rfl ?_
          refine v_iconst (pc := 60) (v := 1) dX3_takeStreet_60 (by decide) ?_
          refine v_iconst (pc := 61) (v := 4) dX3_takeStreet_61 (by decide) ?_
          refine v_callV (pc := 62) (rest := []) [0] 0 lk_376 (c_X3_isNumber l E t0 b0 tb tl (tkN by_ tl (tkN by_ tl nx)) (tkS by_ tl (tkN by_ tl nx)) (if tkO by_ tl (tkN by_ tl nx) = true then (if numC (tkK by_ tl nx) (tkV by_ tl nx tv) 1 6 = 0 then (if tkO by_ tl nx = true then tf else 1) else numC (tkK by_ tl nx) (tkV by_ tl nx tv) 1 6) else 1) (if tkO by_ tl (tkN by_ tl nx) = true then (if numC (tkK by_ tl nx) (tkV by_ tl nx tv) 1 6 = 0 then (if tkO by_ tl nx = true then tp else nI (tkS by_ tl nx)) else nI (tkS by_ tl nx)) else nI (tkS by_ tl (tkN by_ tl nx))) (tkK by_ tl (tkN by_ tl nx)) (tkV by_ tl (tkN by_ tl nx) (tkV by_ tl nx tv)) 1 tN tO tpd 1 4) dX3_takeStreet_62 rfl rfl (Nat.le_of_ble_eq_true rfl) (by decide) rfl rfl rfl (by decide) rfl (Rt.len rfl) (Rt.go ?_)
          refine v_w (ws' := [(t0, .inr (3, [.ref b0, .int (nI tl), .int (if numC (tkK by_ tl (tkN by_ tl nx)) (tkV by_ tl (tkN by_ tl nx) (tkV by_ tl nx tv)) 1 4 = 0 then (if tkO by_ tl (tkN by_ tl nx) = true then (if numC (tkK by_ tl nx) (tkV by_ tl nx tv) 1 6 = 0 then (if tkO by_ tl nx = true then tf else 1) else numC (tkK by_ tl nx) (tkV by_ tl nx tv) 1 6) else 1) else numC (tkK by_ tl (tkN by_ tl nx)) (tkV by_ tl (tkN by_ tl nx) (tkV by_ tl nx tv)) 1 4), .int (if numC (tkK by_ tl (tkN by_ tl nx)) (tkV by_ tl (tkN by_ tl nx) (tkV by_ tl nx tv)) 1 4 = 0 then (if tkO by_ tl (tkN by_ tl nx) = true then (if numC (tkK by_ tl nx) (tkV by_ tl nx tv) 1 6 = 0 then (if tkO by_ tl nx = true then tp else nI (tkS by_ tl nx)) else nI (tkS by_ tl nx)) else nI (tkS by_ tl (tkN by_ tl nx))) else nI (tkS by_ tl (tkN by_ tl nx))), .ref tb, .int (nI (tkN by_ tl (tkN by_ tl nx))), .int ((tkK by_ tl (tkN by_ tl nx))), .int (nI (tkS by_ tl (tkN by_ tl nx))), .int ((tkV by_ tl (tkN by_ tl nx) (tkV by_ tl nx tv))), .int (1), .int (tN), .int (tO), .int (tpd)])), (tb, .inl (E.2.1 0, 160, .inl (by_))), (b0, .inr (2, [.int (nI (Int32.toNatClampNeg (tkV by_ tl nx 0))), .int (nI kp), .int (nI rl), .int (hm), .int (sp), .int (td), .int (dt), .ref bo, .ref bw, .ref bn, .ref bb, .ref bv]))]) rfl ?_
          refine v_st (st' := [.int (if numC (tkK by_ tl (tkN by_ tl nx)) (tkV by_ tl (tkN by_ tl nx) (tkV by_ tl nx tv)) 1 4 = 0 then 1 else 0)]) rfl ?_
          refine v_ifB_ne (pc := 65) 70 dX3_takeStreet_65 (by decide) (fun c_65 => ?_) (fun c_65 => ?_)
          · skip
            obtain ⟨hcB, hnB, hvB⟩ := ckN_ok (k := ckC by_ tl (tkN by_ tl (tkN by_ tl nx))) _ c_56 c_65
            refine v_aload_n (pc := 70) 0 dX3_takeStreet_70 rfl rfl ?_
            refine gf_176 (pc := 71) 0 dX3_takeStreet_71 rfl rfl ?_
            refine v_aload_n (pc := 74) 0 dX3_takeStreet_74 rfl rfl ?_
            refine gf_188 (pc := 75) 0 dX3_takeStreet_75 rfl rfl ?_
            refine v_st (st' := [.int (nI (Int32.toNatClampNeg (tkV by_ tl (tkN by_ tl nx) 0))), .ref b0]) (by rw [hvB, nuC_cl hnB (by decide)]) ?_
            refine pf_92 (pc := 78) (ws' := [(t0, .inr (3, [.ref b0, .int (nI tl), .int (if numC (tkK by_ tl (tkN by_ tl nx)) (tkV by_ tl (tkN by_ tl nx) (tkV by_ tl nx tv)) 1 4 = 0 then (if tkO by_ tl (tkN by_ tl nx) = true then (if numC (tkK by_ tl nx) (tkV by_ tl nx tv) 1 6 = 0 then (if tkO by_ tl nx = true then tf else 1) else numC (tkK by_ tl nx) (tkV by_ tl nx tv) 1 6) else 1) else numC (tkK by_ tl (tkN by_ tl nx)) (tkV by_ tl (tkN by_ tl nx) (tkV by_ tl nx tv)) 1 4), .int (if numC (tkK by_ tl (tkN by_ tl nx)) (tkV by_ tl (tkN by_ tl nx) (tkV by_ tl nx tv)) 1 4 = 0 then (if tkO by_ tl (tkN by_ tl nx) = true then (if numC (tkK by_ tl nx) (tkV by_ tl nx tv) 1 6 = 0 then (if tkO by_ tl nx = true then tp else nI (tkS by_ tl nx)) else nI (tkS by_ tl nx)) else nI (tkS by_ tl (tkN by_ tl nx))) else nI (tkS by_ tl (tkN by_ tl nx))), .ref tb, .int (nI (tkN by_ tl (tkN by_ tl nx))), .int ((tkK by_ tl (tkN by_ tl nx))), .int (nI (tkS by_ tl (tkN by_ tl nx))), .int ((tkV by_ tl (tkN by_ tl nx) (tkV by_ tl nx tv))), .int (1), .int (tN), .int (tO), .int (tpd)])), (tb, .inl (E.2.1 0, 160, .inl (by_))), (b0, .inr (2, [.int (nI (Int32.toNatClampNeg (tkV by_ tl nx 0))), .int (nI (Int32.toNatClampNeg (tkV by_ tl (tkN by_ tl nx) 0))), .int (nI rl), .int (hm), .int (sp), .int (td), .int (dt), .ref bo, .ref bw, .ref bn, .ref bb, .ref bv]))]) 2 dX3_takeStreet_78 rfl rfl rfl (Nat.le_of_ble_eq_true rfl) rfl ?_
            refine v_aload_n (pc := 81) 0 dX3_takeStreet_81 rfl rfl ?_
            refine v_callV (pc := 82) (rest := []) [0, 1] 0 lk_380 (c_X3_takeClosing l E t0 b0 tb tl (tkN by_ tl (tkN by_ tl nx)) (tkS by_ tl (tkN by_ tl nx)) (if numC (tkK by_ tl (tkN by_ tl nx)) (tkV by_ tl (tkN by_ tl nx) (tkV by_ tl nx tv)) 1 4 = 0 then (if tkO by_ tl (tkN by_ tl nx) = true then (if numC (tkK by_ tl nx) (tkV by_ tl nx tv) 1 6 = 0 then (if tkO by_ tl nx = true then tf else 1) else numC (tkK by_ tl nx) (tkV by_ tl nx tv) 1 6) else 1) else numC (tkK by_ tl (tkN by_ tl nx)) (tkV by_ tl (tkN by_ tl nx) (tkV by_ tl nx tv)) 1 4) (if numC (tkK by_ tl (tkN by_ tl nx)) (tkV by_ tl (tkN by_ tl nx) (tkV by_ tl nx tv)) 1 4 = 0 then (if tkO by_ tl (tkN by_ tl nx) = true then (if numC (tkK by_ tl nx) (tkV by_ tl nx tv) 1 6 = 0 then (if tkO by_ tl nx = true then tp else nI (tkS by_ tl nx)) else nI (tkS by_ tl nx)) else nI (tkS by_ tl (tkN by_ tl nx))) else nI (tkS by_ tl (tkN by_ tl nx))) (tkK by_ tl (tkN by_ tl nx)) (tkV by_ tl (tkN by_ tl nx) (tkV by_ tl nx tv)) 1 tN tO tpd by_ (tkN_b (tkN_b h_nx).2).2 h_tl) dX3_takeStreet_82 rfl rfl (Nat.le_of_ble_eq_true rfl) (by decide) rfl rfl rfl (by decide) rfl (by rintro _ _ ⟨_, _, _, _, _, _, _, rfl, _⟩; rfl) ?_
            rintro _ _ ⟨tf_82, tp_82, tx_82, tk_82, ts_82, tv_82, rfl, rfl, hf82_0, hf82_1, hf82_2⟩
            refine v_w (ws' := [(t0, .inr (3, [.ref b0, .int (nI tl), .int (tf_82), .int (tp_82), .ref tb, .int (nI tx_82), .int (tk_82), .int (nI ts_82), .int (tv_82), .int (1), .int (tN), .int (tO), .int (tpd)])), (tb, .inl (E.2.1 0, 160, .inl (by_))), (b0, .inr (2, [.int (nI (Int32.toNatClampNeg (tkV by_ tl nx 0))), .int (nI (Int32.toNatClampNeg (tkV by_ tl (tkN by_ tl nx) 0))), .int (nI rl), .int (hm), .int (sp), .int (td), .int (dt), .ref bo, .ref bw, .ref bn, .ref bb, .ref bv]))]) rfl ?_
            refine v_st (st' := [.int (if (ckC by_ tl (tkN by_ tl (tkN by_ tl nx))).1 = 0 then 1 else 0)]) rfl ?_
            refine v_zret (pc := 85) dX3_takeStreet_85 rfl (zn01 _) ⟨rfl, rfl⟩ ⟨(tf_82), (tp_82), (tx_82), (tk_82), (ts_82), (tv_82), (1), (Int32.toNatClampNeg (tkV by_ tl nx 0)), (Int32.toNatClampNeg (tkV by_ tl (tkN by_ tl nx) 0)), ?_, rfl, ?_, ?_, ?_⟩
            · skip
              have ht : lnStreet by_ tl nx sa th = ckN by_ tl nx 1 6 (ckN by_ tl (tkN by_ tl nx) 1 4 (ckC by_ tl (tkN by_ tl (tkN by_ tl nx)))) := if_pos c_4
              have hc : lnStreet by_ tl nx sa th = ckC by_ tl (tkN by_ tl (tkN by_ tl nx)) := (ht.trans hcA).trans hcB
              rw [hc]
            · skip
              have ht : lnStreet by_ tl nx sa th = ckN by_ tl nx 1 6 (ckN by_ tl (tkN by_ tl nx) 1 4 (ckC by_ tl (tkN by_ tl (tkN by_ tl nx)))) := if_pos c_4
              have hc : lnStreet by_ tl nx sa th = ckC by_ tl (tkN by_ tl (tkN by_ tl nx)) := (ht.trans hcA).trans hcB
              rw [hc]; exact fun q => ⟨(hf82_0 q).1.trans (by rw [if_pos c_65, if_pos c_56, if_pos c_36, if_pos c_26]), (hf82_0 q).2, rfl, rfl, rfl⟩
            · skip
              have ht : lnStreet by_ tl nx sa th = ckN by_ tl nx 1 6 (ckN by_ tl (tkN by_ tl nx) 1 4 (ckC by_ tl (tkN by_ tl (tkN by_ tl nx)))) := if_pos c_4
              have hc : lnStreet by_ tl nx sa th = ckC by_ tl (tkN by_ tl (tkN by_ tl nx)) := (ht.trans hcA).trans hcB
              rw [hc]; exact hf82_1
            · skip
              exact hf82_2
          · skip
            refine v_iconst (pc := 68) (v := 0) dX3_takeStreet_68 (by decide) ?_
            refine v_zret (pc := 69) dX3_takeStreet_69 rfl rfl ⟨rfl, rfl⟩ ⟨(if numC (tkK by_ tl (tkN by_ tl nx)) (tkV by_ tl (tkN by_ tl nx) (tkV by_ tl nx tv)) 1 4 = 0 then (if tkO by_ tl (tkN by_ tl nx) = true then (if numC (tkK by_ tl nx) (tkV by_ tl nx tv) 1 6 = 0 then (if tkO by_ tl nx = true then tf else 1) else numC (tkK by_ tl nx) (tkV by_ tl nx tv) 1 6) else 1) else numC (tkK by_ tl (tkN by_ tl nx)) (tkV by_ tl (tkN by_ tl nx) (tkV by_ tl nx tv)) 1 4), (if numC (tkK by_ tl (tkN by_ tl nx)) (tkV by_ tl (tkN by_ tl nx) (tkV by_ tl nx tv)) 1 4 = 0 then (if tkO by_ tl (tkN by_ tl nx) = true then (if numC (tkK by_ tl nx) (tkV by_ tl nx tv) 1 6 = 0 then (if tkO by_ tl nx = true then tp else nI (tkS by_ tl nx)) else nI (tkS by_ tl nx)) else nI (tkS by_ tl (tkN by_ tl nx))) else nI (tkS by_ tl (tkN by_ tl nx))), (tkN by_ tl (tkN by_ tl nx)), ((tkK by_ tl (tkN by_ tl nx))), (tkS by_ tl (tkN by_ tl nx)), ((tkV by_ tl (tkN by_ tl nx) (tkV by_ tl nx tv))), (1), (Int32.toNatClampNeg (tkV by_ tl nx 0)), (kp), ?_, rfl, ?_, ?_, ?_⟩
            · skip
              have hnz : ¬ numC (tkK by_ tl (tkN by_ tl nx)) (tkV by_ tl (tkN by_ tl nx) (tkV by_ tl nx tv)) 1 4 = 0 := c_65
              have hc : lnStreet by_ tl nx sa th = (numC (tkK by_ tl (tkN by_ tl nx)) (tkV by_ tl (tkN by_ tl nx) (tkV by_ tl nx tv)) 1 4, tkS by_ tl (tkN by_ tl nx)) := by have ht : lnStreet by_ tl nx sa th = ckN by_ tl nx 1 6 (ckN by_ tl (tkN by_ tl nx) 1 4 (ckC by_ tl (tkN by_ tl (tkN by_ tl nx)))) := if_pos c_4; exact (ht.trans hcA).trans (ckN_no _ c_56 c_65)
              rw [hc]; exact congrArg (fun z => some (Value.int z)) (if_neg hnz).symm
            · skip
              have hnz : ¬ numC (tkK by_ tl (tkN by_ tl nx)) (tkV by_ tl (tkN by_ tl nx) (tkV by_ tl nx tv)) 1 4 = 0 := c_65
              have hc : lnStreet by_ tl nx sa th = (numC (tkK by_ tl (tkN by_ tl nx)) (tkV by_ tl (tkN by_ tl nx) (tkV by_ tl nx tv)) 1 4, tkS by_ tl (tkN by_ tl nx)) := by have ht : lnStreet by_ tl nx sa th = ckN by_ tl nx 1 6 (ckN by_ tl (tkN by_ tl nx) 1 4 (ckC by_ tl (tkN by_ tl (tkN by_ tl nx)))) := if_pos c_4; exact (ht.trans hcA).trans (ckN_no _ c_56 c_65)
              rw [hc]; exact fun q => absurd q hnz
            · skip
              have hnz : ¬ numC (tkK by_ tl (tkN by_ tl nx)) (tkV by_ tl (tkN by_ tl nx) (tkV by_ tl nx tv)) 1 4 = 0 := c_65
              have hc : lnStreet by_ tl nx sa th = (numC (tkK by_ tl (tkN by_ tl nx)) (tkV by_ tl (tkN by_ tl nx) (tkV by_ tl nx tv)) 1 4, tkS by_ tl (tkN by_ tl nx)) := by have ht : lnStreet by_ tl nx sa th = ckN by_ tl nx 1 6 (ckN by_ tl (tkN by_ tl nx) 1 4 (ckC by_ tl (tkN by_ tl (tkN by_ tl nx)))) := if_pos c_4; exact (ht.trans hcA).trans (ckN_no _ c_56 c_65)
              rw [hc]; exact fun _ => ⟨if_neg c_65, if_neg c_65⟩
            · skip
              exact (tkN_b (tkN_b h_nx).2).2
      · skip
        refine v_iconst (pc := 39) (v := 0) dX3_takeStreet_39 (by decide) ?_
        refine v_zret (pc := 40) dX3_takeStreet_40 rfl rfl ⟨rfl, rfl⟩ ⟨(if numC (tkK by_ tl nx) (tkV by_ tl nx tv) 1 6 = 0 then (if tkO by_ tl nx = true then tf else 1) else numC (tkK by_ tl nx) (tkV by_ tl nx tv) 1 6), (if numC (tkK by_ tl nx) (tkV by_ tl nx tv) 1 6 = 0 then (if tkO by_ tl nx = true then tp else nI (tkS by_ tl nx)) else nI (tkS by_ tl nx)), (tkN by_ tl nx), ((tkK by_ tl nx)), (tkS by_ tl nx), ((tkV by_ tl nx tv)), (1), (kn), (kp), ?_, rfl, ?_, ?_, ?_⟩
        · skip
          have hnz : ¬ numC (tkK by_ tl nx) (tkV by_ tl nx tv) 1 6 = 0 := c_36
          have hc : lnStreet by_ tl nx sa th = (numC (tkK by_ tl nx) (tkV by_ tl nx tv) 1 6, tkS by_ tl nx) := by have ht : lnStreet by_ tl nx sa th = ckN by_ tl nx 1 6 (ckN by_ tl (tkN by_ tl nx) 1 4 (ckC by_ tl (tkN by_ tl (tkN by_ tl nx)))) := if_pos c_4; exact ht.trans (ckN_no tv c_26 c_36)
          rw [hc]; exact congrArg (fun z => some (Value.int z)) (if_neg hnz).symm
        · skip
          have hnz : ¬ numC (tkK by_ tl nx) (tkV by_ tl nx tv) 1 6 = 0 := c_36
          have hc : lnStreet by_ tl nx sa th = (numC (tkK by_ tl nx) (tkV by_ tl nx tv) 1 6, tkS by_ tl nx) := by have ht : lnStreet by_ tl nx sa th = ckN by_ tl nx 1 6 (ckN by_ tl (tkN by_ tl nx) 1 4 (ckC by_ tl (tkN by_ tl (tkN by_ tl nx)))) := if_pos c_4; exact ht.trans (ckN_no tv c_26 c_36)
          rw [hc]; exact fun q => absurd q hnz
        · skip
          have hnz : ¬ numC (tkK by_ tl nx) (tkV by_ tl nx tv) 1 6 = 0 := c_36
          have hc : lnStreet by_ tl nx sa th = (numC (tkK by_ tl nx) (tkV by_ tl nx tv) 1 6, tkS by_ tl nx) := by have ht : lnStreet by_ tl nx sa th = ckN by_ tl nx 1 6 (ckN by_ tl (tkN by_ tl nx) 1 4 (ckC by_ tl (tkN by_ tl (tkN by_ tl nx)))) := if_pos c_4; exact ht.trans (ckN_no tv c_26 c_36)
          rw [hc]; exact fun _ => ⟨if_neg c_36, if_neg c_36⟩
        · skip
          exact (tkN_b h_nx).2
  · skip
    refine v_aload_n (pc := 7) 0 dX3_takeStreet_7 rfl rfl ?_
    refine v_iconst (pc := 8) (v := 4) dX3_takeStreet_8 (by decide) ?_
    refine v_aload_n (pc := 9) 0 dX3_takeStreet_9 rfl rfl ?_
    refine gf_187 (pc := 10) 0 dX3_takeStreet_10 rfl rfl ?_
    refine v_callV (pc := 13) (rest := []) [0] 0 lk_311 (c_X3_fail l E t0 b0 tb tl nx sa tf tp tk tv th tN tO tpd 4 (nI sa)) dX3_takeStreet_13 rfl rfl (Nat.le_of_ble_eq_true rfl) (by decide) rfl rfl rfl (by decide) rfl (Rt.len rfl) (Rt.go ?_)
    refine v_w (ws' := [(t0, .inr (3, [.ref b0, .int (nI tl), .int (4), .int ((nI sa)), .ref tb, .int (nI nx), .int (tk), .int (nI sa), .int (tv), .int (th), .int (tN), .int (tO), .int (tpd)])), (tb, .inl (E.2.1 0, 160, .inl (by_))), (b0, .inr (2, [.int (nI kn), .int (nI kp), .int (nI rl), .int (hm), .int (sp), .int (td), .int (dt), .ref bo, .ref bw, .ref bn, .ref bb, .ref bv]))]) rfl ?_
    refine v_st (st' := [.int (0)]) rfl ?_
    refine v_zret (pc := 16) dX3_takeStreet_16 rfl rfl ⟨rfl, rfl⟩ ⟨(4), ((nI sa)), (nx), (tk), (sa), (tv), (th), (kn), (kp), ?_, rfl, ?_, ?_, ?_⟩
    · skip
      have hc : lnStreet by_ tl nx sa th = (4, sa) := by exact if_neg c_4
      rw [hc]; rfl
    · skip
      have hc : lnStreet by_ tl nx sa th = (4, sa) := by exact if_neg c_4
      rw [hc]; exact fun q => absurd q (show ¬ (4 : Int32) = 0 by decide)
    · skip
      have hc : lnStreet by_ tl nx sa th = (4, sa) := by exact if_neg c_4
      rw [hc]; exact fun _ => ⟨rfl, rfl⟩
    · skip
      exact h_nx
