/-! the model's text -/
theorem GS_0 {on3 wr3 nd3 br3 wo3 : Nat → Int32} : GS (PS.mk 0 0 0 0 0 0 0 0 3 2 on3 wr3 nd3 br3 (fillI wo3 0 6)) := by
  refine ⟨Or.inl rfl, ⟨0, by decide, rfl⟩, ⟨0, by decide, rfl⟩, ⟨0, by decide, rfl⟩, ⟨0, by decide, rfl⟩, ⟨0, by decide, rfl⟩, Nat.zero_le _, ⟨show 1 ≤ 3 by decide, show 3 ≤ 6 by decide, show 1 ≤ 2 by decide, show 2 ≤ 4 by decide⟩, ?_, ?_⟩
  · intro k hk; exact absurd hk (Nat.not_lt_zero _)
  · intro k hk
    show ¬ fillI wo3 0 6 k < -9 ∧ fillI wo3 0 6 k ≤ 9
    rw [show fillI wo3 0 6 k = 0 by simp [fillI, hk]]
    decide
theorem PR_0 {on3 wr3 nd3 br3 wo3 pg : Nat → Int32} (h : ∀ j, j < 43 → pg j = 0) : PRm (PS.mk 0 0 0 0 0 0 0 0 3 2 on3 wr3 nd3 br3 (fillI wo3 0 6)) 0 (-1) (-1) 3 2 pg := by
  refine ⟨rfl, rfl, rfl, rfl, rfl, h _ (by decide), h _ (by decide), h _ (by decide), h _ (by decide), h _ (by decide), ?_, ?_⟩
  · intro k hk
    show pg k = fillI wo3 0 6 k
    rw [h k (by omega), show fillI wo3 0 6 k = 0 by simp [fillI, hk]]
  · intro k hk; exact absurd hk (Nat.not_lt_zero _)
/-- between the lines -/
def TI (b : Nat → Int32) (n : Nat) (R : (Int32 × Nat) × PS × Nat) (r : Int32 × Nat) (s : PS) (c : Nat) (to wt hn ho rn ro : Int32) (pg : Nat → Int32) : Prop :=
  (r.1 = 0 → R = laX b n r.2 s c ∧ GS s ∧ to = s.th ∧ PRm s wt hn ho rn ro pg) ∧ (¬ r.1 = 0 → R.1 = r)
theorem TI_bad {b : Nat → Int32} {n : Nat} {R : (Int32 × Nat) × PS × Nat} {r : Int32 × Nat} {s : PS} {c : Nat} {to wt hn ho rn ro : Int32} {pg : Nat → Int32} {bk ba : Int32} {sp he : Nat} {tk va : Int32} (h : TI b n R r s c to wt hn ho rn ro pg) (hm : Md b n r bk ba sp he tk va) (hb : ¬ bk = 0) : fltL R = bk ∧ ba = nI (plcL n R) := by
  have key : R.1.1 = bk ∧ ba = nI R.1.2 := by
    by_cases e : r.1 = 0
    · obtain ⟨a1, a2, -, -⟩ := h.1 e
      have hO : ¬ tkO b n r.2 = true := fun q => hb (hm.2.2.2.1 e q).1
      obtain ⟨e1, e2⟩ := hm.2.2.2.2.1 e hO
      rw [a1, laX_1 (hm.2.2.1 e), la_tok hO]
      exact ⟨e1.symm, e2⟩
    · rw [h.2 e]
      obtain ⟨e1, e2, -⟩ := hm.2.2.2.2.2 e
      exact ⟨e1.symm, e2⟩
  unfold fltL plcL
  rw [if_neg (by rw [key.1]; exact hb), if_neg (by rw [key.1]; exact hb)]
  exact key
theorem TI_end {b : Nat → Int32} {n : Nat} {R : (Int32 × Nat) × PS × Nat} {r : Int32 × Nat} {s : PS} {c : Nat} {to wt hn ho rn ro : Int32} {pg : Nat → Int32} {bk ba : Int32} {sp he : Nat} {tk va : Int32} (h : TI b n R r s c to wt hn ho rn ro pg) (hm : Md b n r bk ba sp he tk va) (hb : bk = 0) (ht : tk = 0) : R.2 = (s, c) ∧ (fltL R = if hn < rn then (if ho < ro then 0 else 7) else 6) ∧ plcL n R = n ∧ he = n ∧ GS s ∧ PRm s wt hn ho rn ro pg := by
  obtain ⟨h1, h2, h3, h4, h5, h6, h7⟩ := hm.at hb
  obtain ⟨a1, a2, -, a4⟩ := h.1 h1
  have hk : tkK b n r.2 = 0 := by rw [← h6]; exact ht
  have e : R = ((0, r.2), s, c) := by rw [a1, laX_1 h3, la_end h2 hk]
  refine ⟨by rw [e], ?_, ?_, ?_, a2, a4⟩
  · rw [e]
    unfold fltL
    rw [if_pos rfl]
    show endF s = _
    rw [end_F a2, a4.2.1, a4.2.2.1, a4.2.2.2.1, a4.2.2.2.2.1]
  · rw [e]; unfold plcL; rw [if_pos rfl]
  · rw [h5]; exact tk_end h3 hk
theorem TI_line {b : Nat → Int32} {n : Nat} {R : (Int32 × Nat) × PS × Nat} {r : Int32 × Nat} {s : PS} {c : Nat} {to wt hn ho rn ro : Int32} {pg : Nat → Int32} {bk ba : Int32} {sp he : Nat} {tk va : Int32} (h : TI b n R r s c to wt hn ho rn ro pg) (hm : Md b n r bk ba sp he tk va) (hb : bk = 0) (ht : ¬ tk = 0) {to' wt' hn' ho' rn' ro' : Int32} {pg' : Nat → Int32} (hf : (lnC b n tk he sp s).1 = 0 → to' = (lnP b n tk he sp s).th ∧ PRm (lnP b n tk he sp s) wt' hn' ho' rn' ro' pg') :
    TI b n R (lnC b n tk he sp s) (lnP b n tk he sp s) (c + 1) to' wt' hn' ho' rn' ro' pg' ∧ mes n (lnC b n tk he sp s) < mes n r := by
  obtain ⟨h1, h2, h3, h4, h5, h6, h7⟩ := hm.at hb
  obtain ⟨a1, a2, a3, a4⟩ := h.1 h1
  subst h4 h5 h6
  refine ⟨⟨fun q => ?_, fun q => ?_⟩, ?_⟩
  · obtain ⟨f1, f2⟩ := hf q
    exact ⟨by rw [a1, laX_go h3 a2 h2 ht q], (ln_pos (tkN_b (b := b) h3).2 q a2).2, f1, f2⟩
  · rw [a1, laX_1 h3, la_bad h2 ht q]
  · unfold mes
    rw [if_pos h1]
    split
    · rename_i q
      have := (ln_pos (tkN_b (b := b) h3).2 q a2).1
      have := tk_lt h3 ht
      omega
    · omega
theorem c_X5_feed (l : Launch) (E : VE) (m0 : Nat) (ma : Nat) (mp : Nat) (mt : Nat) (mc : Nat) (ml : Nat) (mn : Nat) (mk : Nat) (mg : Nat) (mh : Nat) (mq : Nat) (nt : Nat) (pp : Nat) (tl : Nat) (se : Nat) (th : Int32) (rn : Int32) (ro : Int32) (to : Int32) (wt : Int32) (hn : Int32) (ho : Int32) (fa : Int32) (bk : Int32) (ba : Int32) (spt : Int32) (hre : Int32) (tok : Int32) (val : Int32) (tn : Int32) (by_ : Nat → Int32) (c : Int32) (h_tl : tl ≤ 160) : Ct l E yX5_feed cX5_feed 2 (Option.some FieldType.int) 1 25 0 0 [.ref m0, .int (c)] [(m0, .inr (5, [.ref ma, .int (nI nt), .int (nI pp), .int (th), .ref mp, .int (rn), .int (ro), .int (to), .int (wt), .int (hn), .int (ho), .ref mt, .int (nI tl), .int (fa), .int (bk), .int (ba), .int (spt), .int (hre), .int (tok), .int (val), .ref mc, .ref ml, .ref mn, .int (nI se), .ref mk, .ref mg, .ref mh, .ref mq, .int (tn)])), (mt, .inl (E.2.1 1, 160, .inl (by_)))] (Rt (some (.int (if c < 0 then -1 else if c ≤ 127 then (if tl < 160 then nI (tl + 1) else -3) else -1))) [(m0, .inr (5, [.ref ma, .int (nI nt), .int (nI pp), .int (th), .ref mp, .int (rn), .int (ro), .int (to), .int (wt), .int (hn), .int (ho), .ref mt, .int (nI (if c < 0 then tl else if c ≤ 127 then (if tl < 160 then tl + 1 else tl) else tl)), .int (fa), .int (bk), .int (ba), .int (spt), .int (hre), .int (tok), .int (val), .ref mc, .ref ml, .ref mn, .int (nI se), .ref mk, .ref mg, .ref mh, .ref mq, .int (tn)])), (mt, .inl (E.2.1 1, 160, .inl (if c < 0 then by_ else if c ≤ 127 then (if tl < 160 then upd by_ tl c else by_) else by_)))]) := by
  refine Ct.of (own := RX5) (nm := "feed") (lv := [(0, .ref m0), (1, .int (c))]) (by decide) rfl rfl (Nat.le_of_ble_eq_true rfl) rfl ?_
  refine v_iload_n (pc := 0) 1 dX5_feed_0 rfl rfl ?_
  refine v_i2l (pc := 1) dX5_feed_1 ?_
  refine v_lconst (pc := 2) (v := 0) dX5_feed_2 (by decide) ?_
  refine v_ldc2 (pc := 3) dX5_feed_3 tb_879 ?_
  refine v_callS (pc := 6) (rest := []) [] lk_880 (c_X5_in l E (Int32.toInt64 (c)) 0 127) dX5_feed_6 rfl rfl (Nat.le_of_ble_eq_true rfl) (by decide) (by decide) rfl (Rt.len rfl) (Rt.go ?_)
  refine v_w (ws' := [(m0, .inr (5, [.ref ma, .int (nI nt), .int (nI pp), .int (th), .ref mp, .int (rn), .int (ro), .int (to), .int (wt), .int (hn), .int (ho), .ref mt, .int (nI tl), .int (fa), .int (bk), .int (ba), .int (spt), .int (hre), .int (tok), .int (val), .ref mc, .ref ml, .ref mn, .int (nI se), .ref mk, .ref mg, .ref mh, .ref mq, .int (tn)])), (mt, .inl (E.2.1 1, 160, .inl (by_)))]) rfl ?_
  refine v_st (st' := [.int (if ¬ (Int32.toInt64 (c)) < 0 ∧ ¬ 127 < (Int32.toInt64 (c)) then 1 else 0)]) rfl ?_
  refine v_ifB_ne (pc := 9) 14 dX5_feed_9 (by decide) (fun c_9 => ?_) (fun c_9 => ?_)
  · skip
    refine v_aload_n (pc := 14) 0 dX5_feed_14 rfl rfl ?_
    refine gf_799 (pc := 15) 0 dX5_feed_15 rfl rfl ?_
    refine v_sipush (pc := 18) (v := 160) dX5_feed_18 (by decide) ?_
    refine v_cmpN_ne (pc := 21) (a := tl) (b := 160) 27 dX5_feed_21 (by decide) (by omega) (by omega) (fun c_21 => ?_) (fun c_21 => ?_)
    · skip
      refine v_aload_n (pc := 27) 0 dX5_feed_27 rfl rfl ?_
      refine gf_798 (pc := 28) 0 dX5_feed_28 rfl rfl ?_
      refine v_aload_n (pc := 31) 0 dX5_feed_31 rfl rfl ?_
      refine gf_799 (pc := 32) 0 dX5_feed_32 rfl rfl ?_
      refine v_iload_n (pc := 35) 1 dX5_feed_35 rfl rfl ?_
      refine v_iastN (pc := 36) (ws' := [(m0, .inr (5, [.ref ma, .int (nI nt), .int (nI pp), .int (th), .ref mp, .int (rn), .int (ro), .int (to), .int (wt), .int (hn), .int (ho), .ref mt, .int (nI tl), .int (fa), .int (bk), .int (ba), .int (spt), .int (hre), .int (tok), .int (val), .ref mc, .ref ml, .ref mn, .int (nI se), .ref mk, .ref mg, .ref mh, .ref mq, .int (tn)])), (mt, .inl (E.2.1 1, 160, .inl (upd (by_) (tl) (c))))]) 1 1 (tl) dX5_feed_36 rfl rfl rfl (by omega) (by decide) rfl ?_
      refine v_aload_n (pc := 37) 0 dX5_feed_37 rfl rfl ?_
      refine v_dup (pc := 38) dX5_feed_38 rfl ?_
      refine gf_799 (pc := 39) 0 dX5_feed_39 rfl rfl ?_
      refine v_iconst (pc := 42) (v := 1) dX5_feed_42 (by decide) ?_
      refine v_iadd (pc := 43) dX5_feed_43 ?_
      refine v_st (st' := [.int (nI (tl + 1)), .ref m0]) (congrArg (fun z => Value.int z :: _) (nI_add tl 1)) ?_
      refine pf_799 (pc := 44) (ws' := [(m0, .inr (5, [.ref ma, .int (nI nt), .int (nI pp), .int (th), .ref mp, .int (rn), .int (ro), .int (to), .int (wt), .int (hn), .int (ho), .ref mt, .int (nI (tl + 1)), .int (fa), .int (bk), .int (ba), .int (spt), .int (hre), .int (tok), .int (val), .ref mc, .ref ml, .ref mn, .int (nI se), .ref mk, .ref mg, .ref mh, .ref mq, .int (tn)])), (mt, .inl (E.2.1 1, 160, .inl (upd (by_) (tl) (c))))]) 0 dX5_feed_44 rfl rfl rfl (Nat.le_of_ble_eq_true rfl) rfl ?_
      refine v_aload_n (pc := 47) 0 dX5_feed_47 rfl rfl ?_
      refine gf_799 (pc := 48) 0 dX5_feed_48 rfl rfl ?_
      refine v_iret (pc := 51) dX5_feed_51 rfl ⟨rfl, rfl⟩ (Rt.i2 ?_ ?_)
      · skip
        have hc := (inK (a := 0) (b := 127)).mp c_9
        rw [if_neg hc.1, if_pos (Int32.not_lt.mp hc.2), if_pos (show tl < 160 by omega)]
      · skip
        have hc := (inK (a := 0) (b := 127)).mp c_9
        simp only [if_neg hc.1, if_pos (Int32.not_lt.mp hc.2), if_pos (show tl < 160 by omega)]
    · skip
      refine v_bipush (pc := 24) (v := -3) dX5_feed_24 (by decide) ?_
      refine v_iret (pc := 26) dX5_feed_26 rfl ⟨rfl, rfl⟩ (Rt.i2 ?_ ?_)
      · skip
        have hc := (inK (a := 0) (b := 127)).mp c_9
        rw [if_neg hc.1, if_pos (Int32.not_lt.mp hc.2), if_neg (show ¬ tl < 160 by omega)]
      · skip
        have hc := (inK (a := 0) (b := 127)).mp c_9
        simp only [if_neg hc.1, if_pos (Int32.not_lt.mp hc.2), if_neg (show ¬ tl < 160 by omega)]
  · skip
    refine v_iconst (pc := 12) (v := -1) dX5_feed_12 (by decide) ?_
    refine v_iret (pc := 13) dX5_feed_13 rfl ⟨rfl, rfl⟩ (Rt.i2 ?_ ?_)
    · skip
      by_cases z : c < 0
      · rw [if_pos z]
      · rw [if_neg z, if_neg (fun y => c_9 ((inK (a := 0) (b := 127)).mpr ⟨z, Int32.not_lt.mpr y⟩))]
    · skip
      by_cases z : c < 0
      · simp only [if_pos z]
      · simp only [if_neg z, if_neg (show ¬ c ≤ 127 from fun y => c_9 ((inK (a := 0) (b := 127)).mpr ⟨z, Int32.not_lt.mpr y⟩))]
theorem c_X5_end (l : Launch) (E : VE) (m0 : Nat) (ma : Nat) (mp : Nat) (mt : Nat) (mc : Nat) (ml : Nat) (mn : Nat) (mk : Nat) (mg : Nat) (mh : Nat) (mq : Nat) (nt : Nat) (pp : Nat) (tl : Nat) (se : Nat) (th : Int32) (rn : Int32) (ro : Int32) (to : Int32) (wt : Int32) (hn : Int32) (ho : Int32) (fa : Int32) (bk : Int32) (ba : Int32) (spt : Int32) (hre : Int32) (tok : Int32) (val : Int32) (tn : Int32) (n : Int32) : Ct l E yX5_end cX5_end 3 (Option.some FieldType.int) 1 25 0 0 [.ref m0, .int (n)] [(m0, .inr (5, [.ref ma, .int (nI nt), .int (nI pp), .int (th), .ref mp, .int (rn), .int (ro), .int (to), .int (wt), .int (hn), .int (ho), .ref mt, .int (nI tl), .int (fa), .int (bk), .int (ba), .int (spt), .int (hre), .int (tok), .int (val), .ref mc, .ref ml, .ref mn, .int (nI se), .ref mk, .ref mg, .ref mh, .ref mq, .int (tn)]))] (Rt (some (.int (if n < 0 then -1 else if n ≤ nI tl then nI tl else -1))) [(m0, .inr (5, [.ref ma, .int (nI nt), .int (nI pp), .int (th), .ref mp, .int (rn), .int (ro), .int (to), .int (wt), .int (hn), .int (ho), .ref mt, .int (if n < 0 then nI tl else if n ≤ nI tl then n else nI tl), .int (fa), .int (bk), .int (ba), .int (spt), .int (hre), .int (tok), .int (val), .ref mc, .ref ml, .ref mn, .int (nI se), .ref mk, .ref mg, .ref mh, .ref mq, .int (tn)]))]) := by
  refine Ct.of (own := RX5) (nm := "end") (lv := [(0, .ref m0), (1, .int (n))]) (by decide) rfl rfl (Nat.le_of_ble_eq_true rfl) rfl ?_
  refine v_iload_n (pc := 0) 1 dX5_end_0 rfl rfl ?_
  refine v_i2l (pc := 1) dX5_end_1 ?_
  refine v_lconst (pc := 2) (v := 0) dX5_end_2 (by decide) ?_
  refine v_aload_n (pc := 3) 0 dX5_end_3 rfl rfl ?_
  refine gf_799 (pc := 4) 0 dX5_end_4 rfl rfl ?_
  refine v_i2l (pc := 7) dX5_end_7 ?_
  refine v_callS (pc := 8) (rest := []) [] lk_880 (c_X5_in l E (Int32.toInt64 (n)) 0 (Int32.toInt64 (nI tl))) dX5_end_8 rfl rfl (Nat.le_of_ble_eq_true rfl) (by decide) (by decide) rfl (Rt.len rfl) (Rt.go ?_)
  refine v_w (ws' := [(m0, .inr (5, [.ref ma, .int (nI nt), .int (nI pp), .int (th), .ref mp, .int (rn), .int (ro), .int (to), .int (wt), .int (hn), .int (ho), .ref mt, .int (nI tl), .int (fa), .int (bk), .int (ba), .int (spt), .int (hre), .int (tok), .int (val), .ref mc, .ref ml, .ref mn, .int (nI se), .ref mk, .ref mg, .ref mh, .ref mq, .int (tn)]))]) rfl ?_
  refine v_st (st' := [.int (if ¬ (Int32.toInt64 (n)) < 0 ∧ ¬ (Int32.toInt64 (nI tl)) < (Int32.toInt64 (n)) then 1 else 0)]) rfl ?_
  refine v_ifB_ne (pc := 11) 16 dX5_end_11 (by decide) (fun c_11 => ?_) (fun c_11 => ?_)
  · skip
    refine v_aload_n (pc := 16) 0 dX5_end_16 rfl rfl ?_
    refine gf_799 (pc := 17) 0 dX5_end_17 rfl rfl ?_
    refine v_istore_n (pc := 20) (lv' := [(2, .int (nI tl)), (0, .ref m0), (1, .int (n))]) dX5_end_20 rfl (by decide) rfl ?_
    refine v_aload_n (pc := 21) 1 dX5_end_21 rfl rfl ?_
    refine v_iload_n (pc := 22) 2 dX5_end_22 rfl rfl ?_
    refine pf_799 (pc := 23) (ws' := [(m0, .inr (5, [.ref ma, .int (nI nt), .int (nI pp), .int (th), .ref mp, .int (rn), .int (ro), .int (to), .int (wt), .int (hn), .int (ho), .ref mt, .int (n), .int (fa), .int (bk), .int (ba), .int (spt), .int (hre), .int (tok), .int (val), .ref mc, .ref ml, .ref mn, .int (nI se), .ref mk, .ref mg, .ref mh, .ref mq, .int (tn)]))]) 0 dX5_end_23 rfl rfl rfl (Nat.le_of_ble_eq_true rfl) rfl ?_
    refine v_iload_n (pc := 26) 0 dX5_end_26 rfl rfl ?_
    refine v_iret (pc := 27) dX5_end_27 rfl ⟨rfl, rfl⟩ (Rt.i2 ?_ ?_)
    · skip
      have hc := (inK (a := 0) (b := nI tl)).mp c_11
      rw [if_neg hc.1, if_pos (Int32.not_lt.mp hc.2)]
    · skip
      have hc := (inK (a := 0) (b := nI tl)).mp c_11
      simp only [if_neg hc.1, if_pos (Int32.not_lt.mp hc.2)]
  · skip
    refine v_iconst (pc := 14) (v := -1) dX5_end_14 (by decide) ?_
    refine v_iret (pc := 15) dX5_end_15 rfl ⟨rfl, rfl⟩ (Rt.i2 ?_ ?_)
    · skip
      by_cases z : n < 0
      · rw [if_pos z]
      · rw [if_neg z, if_neg (fun y => c_11 ((inK (a := 0) (b := nI tl)).mpr ⟨z, Int32.not_lt.mpr y⟩))]
    · skip
      by_cases z : n < 0
      · simp only [if_pos z]
      · simp only [if_neg z, if_neg (show ¬ n ≤ nI tl from fun y => c_11 ((inK (a := 0) (b := nI tl)).mpr ⟨z, Int32.not_lt.mpr y⟩))]
theorem cB_X5_text (l : Launch) (E : VE) (m0 : Nat) (ma : Nat) (mp : Nat) (mt : Nat) (mc : Nat) (ml : Nat) (mn : Nat) (mk : Nat) (mg : Nat) (mh : Nat) (mq : Nat) (nt : Nat) (pp : Nat) (tl : Nat) (se : Nat) (th : Int32) (rn : Int32) (ro : Int32) (to : Int32) (wt : Int32) (hn : Int32) (ho : Int32) (fa : Int32) (bk : Int32) (ba : Int32) (tok : Int32) (val : Int32) (tn : Int32) (f : Nat → Int32) (sq : Nat) (he : Nat) (by_ : Nat → Int32) (on3 : Nat → Int32) (wr3 : Nat → Int32) (nd3 : Nat → Int32) (br3 : Nat → Int32) (wo3 : Nat → Int32) (cf : Nat → Int32) (lf : Nat → Int32) (pg : Nat → Int32) (kp : Nat → Int32) (h_tl : tl ≤ 160) (h_b : ∀ j, ¬ by_ j = -4) (h_cf : ∀ k, k < 9 → cf k = nI (cutT.getD k 0)) (h_lf : ∀ k, k < 35 → lf k = letT.getD k 0) (h_f : ¬ fltL (lnAll by_ tl (tl + 1) 0 (PS.mk 0 0 0 0 0 0 0 0 3 2 on3 wr3 nd3 br3 (fillI wo3 0 6)) 0) = 0) : Ct l E yX5_text cX5_text 3 (Option.some FieldType.int) 7 156 0 0 [.ref m0] [(m0, .inr (5, [.ref ma, .int (nI nt), .int (nI pp), .int (th), .ref mp, .int (rn), .int (ro), .int (to), .int (wt), .int (hn), .int (ho), .ref mt, .int (nI tl), .int (fa), .int (bk), .int (ba), .int (nI sq), .int (nI he), .int (tok), .int (val), .ref mc, .ref ml, .ref mn, .int (nI se), .ref mk, .ref mg, .ref mh, .ref mq, .int (tn)])), (mt, .inl (E.2.1 1, 160, .inl (by_))), (mp, .inl (E.2.1 1, 43, .inl (pg))), (mc, .inl (E.2.1 1, 9, .inl (cf))), (ml, .inl (E.2.1 1, 35, .inl (lf))), (ma, .inl (E.2.1 1, 172, .inl (f))), (mk, .inl (E.2.1 3, 2, .inl (kp)))] (fun v wd => ∃ (bk_ : Int32) (ba_ : Int32) (sp_ : Nat) (he_ : Nat) (to_ : Int32) (va_ : Int32) (wt_ : Int32) (hn_ : Int32) (ho_ : Int32) (rn_ : Int32) (ro_ : Int32) (tc_ : Int32) (pg_ : Nat → Int32) (fa_ : Int32), v = some (.int (-10 - nI (plcL tl (lnAll by_ tl (tl + 1) 0 (PS.mk 0 0 0 0 0 0 0 0 3 2 on3 wr3 nd3 br3 (fillI wo3 0 6)) 0)))) ∧ wd = [(m0, .inr (5, [.ref ma, .int (nI nt), .int (nI pp), .int (th), .ref mp, .int (rn_), .int (ro_), .int (tc_), .int (wt_), .int (hn_), .int (ho_), .ref mt, .int (0), .int (fa_), .int (bk_), .int (ba_), .int (nI sp_), .int (nI he_), .int (to_), .int (va_), .ref mc, .ref ml, .ref mn, .int (nI se), .ref mk, .ref mg, .ref mh, .ref mq, .int (tn)])), (mt, .inl (E.2.1 1, 160, .inl (by_))), (mp, .inl (E.2.1 1, 43, .inl (pg_))), (mc, .inl (E.2.1 1, 9, .inl (cf))), (ml, .inl (E.2.1 1, 35, .inl (lf))), (ma, .inl (E.2.1 1, 172, .inl (f))), (mk, .inl (E.2.1 3, 2, .inl (kp)))] ∧ (fa_ = fltL (lnAll by_ tl (tl + 1) 0 (PS.mk 0 0 0 0 0 0 0 0 3 2 on3 wr3 nd3 br3 (fillI wo3 0 6)) 0))) := by
  refine Ct.of (own := RX5) (nm := "text") (lv := [(0, .ref m0)]) (by decide) rfl rfl (Nat.le_of_ble_eq_true rfl) rfl ?_
  refine v_aload_n (pc := 0) 0 dX5_text_0 rfl rfl ?_
  refine v_iconst (pc := 1) (v := 0) dX5_text_1 (by decide) ?_
  refine pf_801 (pc := 2) (ws' := [(m0, .inr (5, [.ref ma, .int (nI nt), .int (nI pp), .int (th), .ref mp, .int (rn), .int (ro), .int (to), .int (wt), .int (hn), .int (ho), .ref mt, .int (nI tl), .int (fa), .int (0), .int (ba), .int (nI sq), .int (nI he), .int (tok), .int (val), .ref mc, .ref ml, .ref mn, .int (nI se), .ref mk, .ref mg, .ref mh, .ref mq, .int (tn)])), (mt, .inl (E.2.1 1, 160, .inl (by_))), (mp, .inl (E.2.1 1, 43, .inl (pg))), (mc, .inl (E.2.1 1, 9, .inl (cf))), (ml, .inl (E.2.1 1, 35, .inl (lf))), (ma, .inl (E.2.1 1, 172, .inl (f))), (mk, .inl (E.2.1 3, 2, .inl (kp)))]) 0 dX5_text_2 rfl rfl rfl (Nat.le_of_ble_eq_true rfl) rfl ?_
  refine v_aload_n (pc := 5) 0 dX5_text_5 rfl rfl ?_
  refine v_iconst (pc := 6) (v := 0) dX5_text_6 (by decide) ?_
  refine pf_803 (pc := 7) (ws' := [(m0, .inr (5, [.ref ma, .int (nI nt), .int (nI pp), .int (th), .ref mp, .int (rn), .int (ro), .int (to), .int (wt), .int (hn), .int (ho), .ref mt, .int (nI tl), .int (fa), .int (0), .int (ba), .int (0), .int (nI he), .int (tok), .int (val), .ref mc, .ref ml, .ref mn, .int (nI se), .ref mk, .ref mg, .ref mh, .ref mq, .int (tn)])), (mt, .inl (E.2.1 1, 160, .inl (by_))), (mp, .inl (E.2.1 1, 43, .inl (pg))), (mc, .inl (E.2.1 1, 9, .inl (cf))), (ml, .inl (E.2.1 1, 35, .inl (lf))), (ma, .inl (E.2.1 1, 172, .inl (f))), (mk, .inl (E.2.1 3, 2, .inl (kp)))]) 0 dX5_text_7 rfl rfl rfl (Nat.le_of_ble_eq_true rfl) rfl ?_
  refine v_aload_n (pc := 10) 0 dX5_text_10 rfl rfl ?_
  refine v_iconst (pc := 11) (v := 3) dX5_text_11 (by decide) ?_
  refine pf_792 (pc := 12) (ws' := [(m0, .inr (5, [.ref ma, .int (nI nt), .int (nI pp), .int (th), .ref mp, .int (3), .int (ro), .int (to), .int (wt), .int (hn), .int (ho), .ref mt, .int (nI tl), .int (fa), .int (0), .int (ba), .int (0), .int (nI he), .int (tok), .int (val), .ref mc, .ref ml, .ref mn, .int (nI se), .ref mk, .ref mg, .ref mh, .ref mq, .int (tn)])), (mt, .inl (E.2.1 1, 160, .inl (by_))), (mp, .inl (E.2.1 1, 43, .inl (pg))), (mc, .inl (E.2.1 1, 9, .inl (cf))), (ml, .inl (E.2.1 1, 35, .inl (lf))), (ma, .inl (E.2.1 1, 172, .inl (f))), (mk, .inl (E.2.1 3, 2, .inl (kp)))]) 0 dX5_text_12 rfl rfl rfl (Nat.le_of_ble_eq_true rfl) rfl ?_
  refine v_aload_n (pc := 15) 0 dX5_text_15 rfl rfl ?_
  refine v_iconst (pc := 16) (v := 2) dX5_text_16 (by decide) ?_
  refine pf_793 (pc := 17) (ws' := [(m0, .inr (5, [.ref ma, .int (nI nt), .int (nI pp), .int (th), .ref mp, .int (3), .int (2), .int (to), .int (wt), .int (hn), .int (ho), .ref mt, .int (nI tl), .int (fa), .int (0), .int (ba), .int (0), .int (nI he), .int (tok), .int (val), .ref mc, .ref ml, .ref mn, .int (nI se), .ref mk, .ref mg, .ref mh, .ref mq, .int (tn)])), (mt, .inl (E.2.1 1, 160, .inl (by_))), (mp, .inl (E.2.1 1, 43, .inl (pg))), (mc, .inl (E.2.1 1, 9, .inl (cf))), (ml, .inl (E.2.1 1, 35, .inl (lf))), (ma, .inl (E.2.1 1, 172, .inl (f))), (mk, .inl (E.2.1 3, 2, .inl (kp)))]) 0 dX5_text_17 rfl rfl rfl (Nat.le_of_ble_eq_true rfl) rfl ?_
  refine v_aload_n (pc := 20) 0 dX5_text_20 rfl rfl ?_
  refine v_iconst (pc := 21) (v := 0) dX5_text_21 (by decide) ?_
  refine pf_794 (pc := 22) (ws' := [(m0, .inr (5, [.ref ma, .int (nI nt), .int (nI pp), .int (th), .ref mp, .int (3), .int (2), .int (0), .int (wt), .int (hn), .int (ho), .ref mt, .int (nI tl), .int (fa), .int (0), .int (ba), .int (0), .int (nI he), .int (tok), .int (val), .ref mc, .ref ml, .ref mn, .int (nI se), .ref mk, .ref mg, .ref mh, .ref mq, .int (tn)])), (mt, .inl (E.2.1 1, 160, .inl (by_))), (mp, .inl (E.2.1 1, 43, .inl (pg))), (mc, .inl (E.2.1 1, 9, .inl (cf))), (ml, .inl (E.2.1 1, 35, .inl (lf))), (ma, .inl (E.2.1 1, 172, .inl (f))), (mk, .inl (E.2.1 3, 2, .inl (kp)))]) 0 dX5_text_22 rfl rfl rfl (Nat.le_of_ble_eq_true rfl) rfl ?_
  refine v_aload_n (pc := 25) 0 dX5_text_25 rfl rfl ?_
  refine v_iconst (pc := 26) (v := 0) dX5_text_26 (by decide) ?_
  refine pf_795 (pc := 27) (ws' := [(m0, .inr (5, [.ref ma, .int (nI nt), .int (nI pp), .int (th), .ref mp, .int (3), .int (2), .int (0), .int (0), .int (hn), .int (ho), .ref mt, .int (nI tl), .int (fa), .int (0), .int (ba), .int (0), .int (nI he), .int (tok), .int (val), .ref mc, .ref ml, .ref mn, .int (nI se), .ref mk, .ref mg, .ref mh, .ref mq, .int (tn)])), (mt, .inl (E.2.1 1, 160, .inl (by_))), (mp, .inl (E.2.1 1, 43, .inl (pg))), (mc, .inl (E.2.1 1, 9, .inl (cf))), (ml, .inl (E.2.1 1, 35, .inl (lf))), (ma, .inl (E.2.1 1, 172, .inl (f))), (mk, .inl (E.2.1 3, 2, .inl (kp)))]) 0 dX5_text_27 rfl rfl rfl (Nat.le_of_ble_eq_true rfl) rfl ?_
  refine v_aload_n (pc := 30) 0 dX5_text_30 rfl rfl ?_
  refine v_iconst (pc := 31) (v := -1) dX5_text_31 (by decide) ?_
  refine pf_796 (pc := 32) (ws' := [(m0, .inr (5, [.ref ma, .int (nI nt), .int (nI pp), .int (th), .ref mp, .int (3), .int (2), .int (0), .int (0), .int (-1), .int (ho), .ref mt, .int (nI tl), .int (fa), .int (0), .int (ba), .int (0), .int (nI he), .int (tok), .int (val), .ref mc, .ref ml, .ref mn, .int (nI se), .ref mk, .ref mg, .ref mh, .ref mq, .int (tn)])), (mt, .inl (E.2.1 1, 160, .inl (by_))), (mp, .inl (E.2.1 1, 43, .inl (pg))), (mc, .inl (E.2.1 1, 9, .inl (cf))), (ml, .inl (E.2.1 1, 35, .inl (lf))), (ma, .inl (E.2.1 1, 172, .inl (f))), (mk, .inl (E.2.1 3, 2, .inl (kp)))]) 0 dX5_text_32 rfl rfl rfl (Nat.le_of_ble_eq_true rfl) rfl ?_
  refine v_aload_n (pc := 35) 0 dX5_text_35 rfl rfl ?_
  refine v_iconst (pc := 36) (v := -1) dX5_text_36 (by decide) ?_
  refine pf_797 (pc := 37) (ws' := [(m0, .inr (5, [.ref ma, .int (nI nt), .int (nI pp), .int (th), .ref mp, .int (3), .int (2), .int (0), .int (0), .int (-1), .int (-1), .ref mt, .int (nI tl), .int (fa), .int (0), .int (ba), .int (0), .int (nI he), .int (tok), .int (val), .ref mc, .ref ml, .ref mn, .int (nI se), .ref mk, .ref mg, .ref mh, .ref mq, .int (tn)])), (mt, .inl (E.2.1 1, 160, .inl (by_))), (mp, .inl (E.2.1 1, 43, .inl (pg))), (mc, .inl (E.2.1 1, 9, .inl (cf))), (ml, .inl (E.2.1 1, 35, .inl (lf))), (ma, .inl (E.2.1 1, 172, .inl (f))), (mk, .inl (E.2.1 3, 2, .inl (kp)))]) 0 dX5_text_37 rfl rfl rfl (Nat.le_of_ble_eq_true rfl) rfl ?_
  refine v_iconst (pc := 40) (v := 0) dX5_text_40 (by decide) ?_
  refine v_istore_n (pc := 41) (lv' := [(1, .int (0)), (0, .ref m0)]) dX5_text_41 rfl (by decide) rfl ?_
  refine v_iconst (pc := 42) (v := 0) dX5_text_42 (by decide) ?_
  refine v_istore_n (pc := 43) (lv' := [(2, .int (0)), (1, .int (0)), (0, .ref m0)]) dX5_text_43 rfl (by decide) rfl ?_
  have loop_44 : ∀ (D_44 : Nat) (k : Nat) (pgk : Nat → Int32), 43 - k < D_44 → (∀ j, j < k → pgk j = 0) → (k ≤ 43) → V l E RX5 cX5_text 3 (Option.some FieldType.int) "text" ({ frames := 7, cells := 0, slots := 0, locals := 156 }) [(m0, .inr (5, [.ref ma, .int (nI nt), .int (nI pp), .int (th), .ref mp, .int (rn), .int (ro), .int (to), .int (wt), .int (hn), .int (ho), .ref mt, .int (nI tl), .int (fa), .int (bk), .int (ba), .int (nI sq), .int (nI he), .int (tok), .int (val), .ref mc, .ref ml, .ref mn, .int (nI se), .ref mk, .ref mg, .ref mh, .ref mq, .int (tn)])), (mt, .inl (E.2.1 1, 160, .inl (by_))), (mp, .inl (E.2.1 1, 43, .inl (pg))), (mc, .inl (E.2.1 1, 9, .inl (cf))), (ml, .inl (E.2.1 1, 35, .inl (lf))), (ma, .inl (E.2.1 1, 172, .inl (f))), (mk, .inl (E.2.1 3, 2, .inl (kp)))] 0 0 (fun v wd => ∃ (bk_ : Int32) (ba_ : Int32) (sp_ : Nat) (he_ : Nat) (to_ : Int32) (va_ : Int32) (wt_ : Int32) (hn_ : Int32) (ho_ : Int32) (rn_ : Int32) (ro_ : Int32) (tc_ : Int32) (pg_ : Nat → Int32) (fa_ : Int32), v = some (.int (-10 - nI (plcL tl (lnAll by_ tl (tl + 1) 0 (PS.mk 0 0 0 0 0 0 0 0 3 2 on3 wr3 nd3 br3 (fillI wo3 0 6)) 0)))) ∧ wd = [(m0, .inr (5, [.ref ma, .int (nI nt), .int (nI pp), .int (th), .ref mp, .int (rn_), .int (ro_), .int (tc_), .int (wt_), .int (hn_), .int (ho_), .ref mt, .int (0), .int (fa_), .int (bk_), .int (ba_), .int (nI sp_), .int (nI he_), .int (to_), .int (va_), .ref mc, .ref ml, .ref mn, .int (nI se), .ref mk, .ref mg, .ref mh, .ref mq, .int (tn)])), (mt, .inl (E.2.1 1, 160, .inl (by_))), (mp, .inl (E.2.1 1, 43, .inl (pg_))), (mc, .inl (E.2.1 1, 9, .inl (cf))), (ml, .inl (E.2.1 1, 35, .inl (lf))), (ma, .inl (E.2.1 1, 172, .inl (f))), (mk, .inl (E.2.1 3, 2, .inl (kp)))] ∧ (fa_ = fltL (lnAll by_ tl (tl + 1) 0 (PS.mk 0 0 0 0 0 0 0 0 3 2 on3 wr3 nd3 br3 (fillI wo3 0 6)) 0))) 0 0 44 [(2, .int (nI k)), (1, .int (0)), (0, .ref m0)] [] [(m0, .inr (5, [.ref ma, .int (nI nt), .int (nI pp), .int (th), .ref mp, .int (3), .int (2), .int (0), .int (0), .int (-1), .int (-1), .ref mt, .int (nI tl), .int (fa), .int (0), .int (ba), .int (0), .int (nI he), .int (tok), .int (val), .ref mc, .ref ml, .ref mn, .int (nI se), .ref mk, .ref mg, .ref mh, .ref mq, .int (tn)])), (mt, .inl (E.2.1 1, 160, .inl (by_))), (mp, .inl (E.2.1 1, 43, .inl (pgk))), (mc, .inl (E.2.1 1, 9, .inl (cf))), (ml, .inl (E.2.1 1, 35, .inl (lf))), (ma, .inl (E.2.1 1, 172, .inl (f))), (mk, .inl (E.2.1 3, 2, .inl (kp)))] := by
    intro D_44
    induction D_44 with
    | zero => intro k pgk h; exact absurd h (Nat.not_lt_zero _)
    | succ D_44 ih_44 =>
      intro k pgk hmu_44 h_44_0 h_44_1
      refine v_iload_n (pc := 44) 0 dX5_text_44 rfl rfl ?_
      refine v_bipush (pc := 45) (v := 43) dX5_text_45 (by decide) ?_
      refine v_cmpN_ge (pc := 47) (a := k) (b := 43) 63 dX5_text_47 (by decide) (by omega) (by omega) (fun c_47 => ?_) (fun c_47 => ?_)
      · skip
        refine v_aload_n (pc := 63) 2 dX5_text_63 rfl rfl ?_
        refine v_callV (pc := 64) (rest := []) [0, 1] 0 lk_891 (c_X5_step l E m0 ma mp mt mc ml mn mk mg mh mq nt pp tl se th 3 2 0 0 (-1) (-1) fa 0 ba tok val tn he by_ 0 h_tl (Nat.zero_le _) rfl h_b) dX5_text_64 rfl rfl (Nat.le_of_ble_eq_true rfl) (by decide) rfl rfl rfl (by decide) rfl (by rintro _ _ ⟨_, _, _, _, _, _, _, rfl, _⟩; rfl) ?_
        rintro _ _ ⟨bk_64, ba_64, sp_64, he_64, to_64, va_64, rfl, rfl, hf64_0⟩
        refine v_w (ws' := [(m0, .inr (5, [.ref ma, .int (nI nt), .int (nI pp), .int (th), .ref mp, .int (3), .int (2), .int (0), .int (0), .int ((-1)), .int ((-1)), .ref mt, .int (nI tl), .int (fa), .int (bk_64), .int (ba_64), .int (nI sp_64), .int (nI he_64), .int (to_64), .int (va_64), .ref mc, .ref ml, .ref mn, .int (nI se), .ref mk, .ref mg, .ref mh, .ref mq, .int (tn)])), (mt, .inl (E.2.1 1, 160, .inl (by_))), (mp, .inl (E.2.1 1, 43, .inl (pgk))), (mc, .inl (E.2.1 1, 9, .inl (cf))), (ml, .inl (E.2.1 1, 35, .inl (lf))), (ma, .inl (E.2.1 1, 172, .inl (f))), (mk, .inl (E.2.1 3, 2, .inl (kp)))]) rfl ?_
        refine v_st (st' := []) rfl ?_
        have loop_67 : ∀ (D_67 : Nat) (bk1 : Int32) (ba1 : Int32) (sq1 : Nat) (he1 : Nat) (tok1 : Int32) (val1 : Int32) (to1 : Int32) (wt1 : Int32) (hn1 : Int32) (ho1 : Int32) (rn1 : Int32) (ro1 : Int32) (pg1 : Nat → Int32) (r1 : Int32 × Nat) (s1 : PS) (i : Nat), mes tl r1 < D_67 → (Md by_ tl r1 bk1 ba1 sq1 he1 tok1 val1) → (TI by_ tl (lnAll by_ tl (tl + 1) 0 (PS.mk 0 0 0 0 0 0 0 0 3 2 on3 wr3 nd3 br3 (fillI wo3 0 6)) 0) r1 s1 i to1 wt1 hn1 ho1 rn1 ro1 pg1) → V l E RX5 cX5_text 3 (Option.some FieldType.int) "text" ({ frames := 7, cells := 0, slots := 0, locals := 156 }) [(m0, .inr (5, [.ref ma, .int (nI nt), .int (nI pp), .int (th), .ref mp, .int (rn), .int (ro), .int (to), .int (wt), .int (hn), .int (ho), .ref mt, .int (nI tl), .int (fa), .int (bk), .int (ba), .int (nI sq), .int (nI he), .int (tok), .int (val), .ref mc, .ref ml, .ref mn, .int (nI se), .ref mk, .ref mg, .ref mh, .ref mq, .int (tn)])), (mt, .inl (E.2.1 1, 160, .inl (by_))), (mp, .inl (E.2.1 1, 43, .inl (pg))), (mc, .inl (E.2.1 1, 9, .inl (cf))), (ml, .inl (E.2.1 1, 35, .inl (lf))), (ma, .inl (E.2.1 1, 172, .inl (f))), (mk, .inl (E.2.1 3, 2, .inl (kp)))] 0 0 (fun v wd => ∃ (bk_ : Int32) (ba_ : Int32) (sp_ : Nat) (he_ : Nat) (to_ : Int32) (va_ : Int32) (wt_ : Int32) (hn_ : Int32) (ho_ : Int32) (rn_ : Int32) (ro_ : Int32) (tc_ : Int32) (pg_ : Nat → Int32) (fa_ : Int32), v = some (.int (-10 - nI (plcL tl (lnAll by_ tl (tl + 1) 0 (PS.mk 0 0 0 0 0 0 0 0 3 2 on3 wr3 nd3 br3 (fillI wo3 0 6)) 0)))) ∧ wd = [(m0, .inr (5, [.ref ma, .int (nI nt), .int (nI pp), .int (th), .ref mp, .int (rn_), .int (ro_), .int (tc_), .int (wt_), .int (hn_), .int (ho_), .ref mt, .int (0), .int (fa_), .int (bk_), .int (ba_), .int (nI sp_), .int (nI he_), .int (to_), .int (va_), .ref mc, .ref ml, .ref mn, .int (nI se), .ref mk, .ref mg, .ref mh, .ref mq, .int (tn)])), (mt, .inl (E.2.1 1, 160, .inl (by_))), (mp, .inl (E.2.1 1, 43, .inl (pg_))), (mc, .inl (E.2.1 1, 9, .inl (cf))), (ml, .inl (E.2.1 1, 35, .inl (lf))), (ma, .inl (E.2.1 1, 172, .inl (f))), (mk, .inl (E.2.1 3, 2, .inl (kp)))] ∧ (fa_ = fltL (lnAll by_ tl (tl + 1) 0 (PS.mk 0 0 0 0 0 0 0 0 3 2 on3 wr3 nd3 br3 (fillI wo3 0 6)) 0))) 0 0 67 [(1, .int (nI i)), (0, .ref m0)] [] [(m0, .inr (5, [.ref ma, .int (nI nt), .int (nI pp), .int (th), .ref mp, .int (rn1), .int (ro1), .int (to1), .int (wt1), .int (hn1), .int (ho1), .ref mt, .int (nI tl), .int (fa), .int (bk1), .int (ba1), .int (nI sq1), .int (nI he1), .int (tok1), .int (val1), .ref mc, .ref ml, .ref mn, .int (nI se), .ref mk, .ref mg, .ref mh, .ref mq, .int (tn)])), (mt, .inl (E.2.1 1, 160, .inl (by_))), (mp, .inl (E.2.1 1, 43, .inl (pg1))), (mc, .inl (E.2.1 1, 9, .inl (cf))), (ml, .inl (E.2.1 1, 35, .inl (lf))), (ma, .inl (E.2.1 1, 172, .inl (f))), (mk, .inl (E.2.1 3, 2, .inl (kp)))] := by
          intro D_67
          induction D_67 with
          | zero => intro bk1 ba1 sq1 he1 tok1 val1 to1 wt1 hn1 ho1 rn1 ro1 pg1 r1 s1 i h; exact absurd h (Nat.not_lt_zero _)
          | succ D_67 ih_67 =>
            intro bk1 ba1 sq1 he1 tok1 val1 to1 wt1 hn1 ho1 rn1 ro1 pg1 r1 s1 i hmu_67 h_67_0 h_67_1
            refine v_aload_n (pc := 67) 1 dX5_text_67 rfl rfl ?_
            refine gf_801 (pc := 68) 0 dX5_text_68 rfl rfl ?_
            refine v_if_ne (pc := 71) 91 dX5_text_71 (by decide) (fun c_71 => ?_) (fun c_71 => ?_)
            · skip
              refine v_aload_n (pc := 91) 1 dX5_text_91 rfl rfl ?_
              refine gf_801 (pc := 92) 0 dX5_text_92 rfl rfl ?_
              refine v_if_ne (pc := 95) 115 dX5_text_95 (by decide) (fun c_95 => ?_) (fun c_95 => ?_)
              · skip
                refine v_aload_n (pc := 115) 1 dX5_text_115 rfl rfl ?_
                refine gf_801 (pc := 116) 0 dX5_text_116 rfl rfl ?_
                refine v_if_ne (pc := 119) 139 dX5_text_119 (by decide) (fun c_119 => ?_) (fun c_119 => ?_)
                · skip
                  refine v_aload_n (pc := 139) 1 dX5_text_139 rfl rfl ?_
                  refine v_iconst (pc := 140) (v := 0) dX5_text_140 (by decide) ?_
                  refine pf_799 (pc := 141) (ws' := [(m0, .inr (5, [.ref ma, .int (nI nt), .int (nI pp), .int (th), .ref mp, .int (rn1), .int (ro1), .int (to1), .int (wt1), .int (hn1), .int (ho1), .ref mt, .int (0), .int (fa), .int (bk1), .int (ba1), .int (nI sq1), .int (nI he1), .int (tok1), .int (val1), .ref mc, .ref ml, .ref mn, .int (nI se), .ref mk, .ref mg, .ref mh, .ref mq, .int (tn)])), (mt, .inl (E.2.1 1, 160, .inl (by_))), (mp, .inl (E.2.1 1, 43, .inl (pg1))), (mc, .inl (E.2.1 1, 9, .inl (cf))), (ml, .inl (E.2.1 1, 35, .inl (lf))), (ma, .inl (E.2.1 1, 172, .inl (f))), (mk, .inl (E.2.1 3, 2, .inl (kp)))]) 0 dX5_text_141 rfl rfl rfl (Nat.le_of_ble_eq_true rfl) rfl ?_
                  refine v_aload_n (pc := 144) 1 dX5_text_144 rfl rfl ?_
                  refine v_aload_n (pc := 145) 1 dX5_text_145 rfl rfl ?_
                  refine gf_801 (pc := 146) 0 dX5_text_146 rfl rfl ?_
                  refine pf_800 (pc := 149) (ws' := [(m0, .inr (5, [.ref ma, .int (nI nt), .int (nI pp), .int (th), .ref mp, .int (rn1), .int (ro1), .int (to1), .int (wt1), .int (hn1), .int (ho1), .ref mt, .int (0), .int (bk1), .int (bk1), .int (ba1), .int (nI sq1), .int (nI he1), .int (tok1), .int (val1), .ref mc, .ref ml, .ref mn, .int (nI se), .ref mk, .ref mg, .ref mh, .ref mq, .int (tn)])), (mt, .inl (E.2.1 1, 160, .inl (by_))), (mp, .inl (E.2.1 1, 43, .inl (pg1))), (mc, .inl (E.2.1 1, 9, .inl (cf))), (ml, .inl (E.2.1 1, 35, .inl (lf))), (ma, .inl (E.2.1 1, 172, .inl (f))), (mk, .inl (E.2.1 3, 2, .inl (kp)))]) 0 dX5_text_149 rfl rfl rfl (Nat.le_of_ble_eq_true rfl) rfl ?_
                  refine v_aload_n (pc := 152) 1 dX5_text_152 rfl rfl ?_
                  refine gf_801 (pc := 153) 0 dX5_text_153 rfl rfl ?_
                  refine v_if_le (pc := 156) 167 dX5_text_156 (by decide) (fun c_156 => ?_) (fun c_156 => ?_)
                  · skip
                    obtain ⟨e2, e3⟩ := TI_bad h_67_1 h_67_0 c_71
                    exact absurd c_156 (fun z => Int32.not_le.mpr (h_67_0.pos.resolve_left c_71) z)
                  · skip
                    refine v_bipush (pc := 159) (v := -10) dX5_text_159 (by decide) ?_
                    refine v_aload_n (pc := 161) 1 dX5_text_161 rfl rfl ?_
                    refine gf_802 (pc := 162) 0 dX5_text_162 rfl rfl ?_
                    refine v_isub (pc := 165) dX5_text_165 ?_
                    refine v_iret (pc := 166) dX5_text_166 rfl ⟨rfl, rfl⟩ ⟨(bk1), (ba1), (sq1), (he1), (tok1), (val1), (wt1), (hn1), (ho1), (rn1), (ro1), (to1), (pg1), (bk1), ?_, rfl, ?_⟩
                    · skip
                      obtain ⟨e2, e3⟩ := TI_bad h_67_1 h_67_0 c_71
                      rw [e3]
                    · skip
                      obtain ⟨e2, e3⟩ := TI_bad h_67_1 h_67_0 c_71
                      exact e2.symm
                · skip
                  exact absurd c_119 c_71
              · skip
                exact absurd c_95 c_71
            · skip
              refine v_aload_n (pc := 74) 1 dX5_text_74 rfl rfl ?_
              refine gf_805 (pc := 75) 0 dX5_text_75 rfl rfl ?_
              refine v_if_eq (pc := 78) 91 dX5_text_78 (by decide) (fun c_78 => ?_) (fun c_78 => ?_)
              · skip
                refine v_aload_n (pc := 91) 1 dX5_text_91 rfl rfl ?_
                refine gf_801 (pc := 92) 0 dX5_text_92 rfl rfl ?_
                refine v_if_ne (pc := 95) 115 dX5_text_95 (by decide) (fun c_95 => ?_) (fun c_95 => ?_)
                · skip
                  exact absurd c_71 c_95
                · skip
                  refine v_aload_n (pc := 98) 1 dX5_text_98 rfl rfl ?_
                  refine gf_796 (pc := 99) 0 dX5_text_99 rfl rfl ?_
                  refine v_aload_n (pc := 102) 1 dX5_text_102 rfl rfl ?_
                  refine gf_792 (pc := 103) 0 dX5_text_103 rfl rfl ?_
                  refine v_icmp_lt (pc := 106) 115 dX5_text_106 (by decide) (fun c_106 => ?_) (fun c_106 => ?_)
                  · skip
                    refine v_aload_n (pc := 115) 1 dX5_text_115 rfl rfl ?_
                    refine gf_801 (pc := 116) 0 dX5_text_116 rfl rfl ?_
                    refine v_if_ne (pc := 119) 139 dX5_text_119 (by decide) (fun c_119 => ?_) (fun c_119 => ?_)
                    · skip
                      exact absurd c_71 c_119
                    · skip
                      refine v_aload_n (pc := 122) 1 dX5_text_122 rfl rfl ?_
                      refine gf_797 (pc := 123) 0 dX5_text_123 rfl rfl ?_
                      refine v_aload_n (pc := 126) 1 dX5_text_126 rfl rfl ?_
                      refine gf_793 (pc := 127) 0 dX5_text_127 rfl rfl ?_
                      refine v_icmp_lt (pc := 130) 139 dX5_text_130 (by decide) (fun c_130 => ?_) (fun c_130 => ?_)
                      · skip
                        refine v_aload_n (pc := 139) 1 dX5_text_139 rfl rfl ?_
                        refine v_iconst (pc := 140) (v := 0) dX5_text_140 (by decide) ?_
                        refine pf_799 (pc := 141) (ws' := [(m0, .inr (5, [.ref ma, .int (nI nt), .int (nI pp), .int (th), .ref mp, .int (rn1), .int (ro1), .int (to1), .int (wt1), .int (hn1), .int (ho1), .ref mt, .int (0), .int (fa), .int (bk1), .int (ba1), .int (nI sq1), .int (nI he1), .int (tok1), .int (val1), .ref mc, .ref ml, .ref mn, .int (nI se), .ref mk, .ref mg, .ref mh, .ref mq, .int (tn)])), (mt, .inl (E.2.1 1, 160, .inl (by_))), (mp, .inl (E.2.1 1, 43, .inl (pg1))), (mc, .inl (E.2.1 1, 9, .inl (cf))), (ml, .inl (E.2.1 1, 35, .inl (lf))), (ma, .inl (E.2.1 1, 172, .inl (f))), (mk, .inl (E.2.1 3, 2, .inl (kp)))]) 0 dX5_text_141 rfl rfl rfl (Nat.le_of_ble_eq_true rfl) rfl ?_
                        refine v_aload_n (pc := 144) 1 dX5_text_144 rfl rfl ?_
                        refine v_aload_n (pc := 145) 1 dX5_text_145 rfl rfl ?_
                        refine gf_801 (pc := 146) 0 dX5_text_146 rfl rfl ?_
                        refine pf_800 (pc := 149) (ws' := [(m0, .inr (5, [.ref ma, .int (nI nt), .int (nI pp), .int (th), .ref mp, .int (rn1), .int (ro1), .int (to1), .int (wt1), .int (hn1), .int (ho1), .ref mt, .int (0), .int (bk1), .int (bk1), .int (ba1), .int (nI sq1), .int (nI he1), .int (tok1), .int (val1), .ref mc, .ref ml, .ref mn, .int (nI se), .ref mk, .ref mg, .ref mh, .ref mq, .int (tn)])), (mt, .inl (E.2.1 1, 160, .inl (by_))), (mp, .inl (E.2.1 1, 43, .inl (pg1))), (mc, .inl (E.2.1 1, 9, .inl (cf))), (ml, .inl (E.2.1 1, 35, .inl (lf))), (ma, .inl (E.2.1 1, 172, .inl (f))), (mk, .inl (E.2.1 3, 2, .inl (kp)))]) 0 dX5_text_149 rfl rfl rfl (Nat.le_of_ble_eq_true rfl) rfl ?_
                        refine v_aload_n (pc := 152) 1 dX5_text_152 rfl rfl ?_
                        refine gf_801 (pc := 153) 0 dX5_text_153 rfl rfl ?_
                        refine v_if_le (pc := 156) 167 dX5_text_156 (by decide) (fun c_156 => ?_) (fun c_156 => ?_)
                        · skip
                          obtain ⟨e1, e2, e3, e4, e5, e6⟩ := TI_end h_67_1 h_67_0 c_71 c_78
                          rw [if_pos c_106, if_pos c_130] at e2
                          exact absurd e2 h_f
                        · skip
                          refine v_bipush (pc := 159) (v := -10) dX5_text_159 (by decide) ?_
                          refine v_aload_n (pc := 161) 1 dX5_text_161 rfl rfl ?_
                          refine gf_802 (pc := 162) 0 dX5_text_162 rfl rfl ?_
                          refine v_isub (pc := 165) dX5_text_165 ?_
                          refine v_iret (pc := 166) dX5_text_166 rfl ⟨rfl, rfl⟩ ⟨(bk1), (ba1), (sq1), (he1), (tok1), (val1), (wt1), (hn1), (ho1), (rn1), (ro1), (to1), (pg1), (bk1), ?_, rfl, ?_⟩
                          · skip
                            obtain ⟨e1, e2, e3, e4, e5, e6⟩ := TI_end h_67_1 h_67_0 c_71 c_78
                            rw [if_pos c_106, if_pos c_130] at e2
                            exact absurd e2 h_f
                          · skip
                            obtain ⟨e1, e2, e3, e4, e5, e6⟩ := TI_end h_67_1 h_67_0 c_71 c_78
                            rw [if_pos c_106, if_pos c_130] at e2
                            exact absurd e2 h_f
                      · skip
                        refine v_aload_n (pc := 133) 1 dX5_text_133 rfl rfl ?_
                        refine v_bipush (pc := 134) (v := 7) dX5_text_134 (by decide) ?_
                        refine v_callV (pc := 136) (rest := []) [0] 0 lk_903 (c_X5_fails l E m0 ma mp mt mc ml mn mk mg mh mq nt pp tl se th rn1 ro1 to1 wt1 hn1 ho1 fa bk1 ba1 (nI sq1) (nI he1) tok1 val1 tn 7) dX5_text_136 rfl rfl (Nat.le_of_ble_eq_true rfl) (by decide) rfl rfl rfl (by decide) rfl (Rt.len rfl) (Rt.go ?_)
                        refine v_w (ws' := [(m0, .inr (5, [.ref ma, .int (nI nt), .int (nI pp), .int (th), .ref mp, .int (rn1), .int (ro1), .int (to1), .int (wt1), .int (hn1), .int (ho1), .ref mt, .int (nI tl), .int (fa), .int (if bk1 = 0 then 7 else bk1), .int (if bk1 = 0 then (nI he1) else ba1), .int ((nI sq1)), .int ((nI he1)), .int (tok1), .int (val1), .ref mc, .ref ml, .ref mn, .int (nI se), .ref mk, .ref mg, .ref mh, .ref mq, .int (tn)])), (mt, .inl (E.2.1 1, 160, .inl (by_))), (mp, .inl (E.2.1 1, 43, .inl (pg1))), (mc, .inl (E.2.1 1, 9, .inl (cf))), (ml, .inl (E.2.1 1, 35, .inl (lf))), (ma, .inl (E.2.1 1, 172, .inl (f))), (mk, .inl (E.2.1 3, 2, .inl (kp)))]) rfl ?_
                        refine v_st (st' := []) rfl ?_
                        refine v_w (ws' := [(m0, .inr (5, [.ref ma, .int (nI nt), .int (nI pp), .int (th), .ref mp, .int (rn1), .int (ro1), .int (to1), .int (wt1), .int (hn1), .int (ho1), .ref mt, .int (nI tl), .int (fa), .int (7), .int (nI he1), .int ((nI sq1)), .int ((nI he1)), .int (tok1), .int (val1), .ref mc, .ref ml, .ref mn, .int (nI se), .ref mk, .ref mg, .ref mh, .ref mq, .int (tn)])), (mt, .inl (E.2.1 1, 160, .inl (by_))), (mp, .inl (E.2.1 1, 43, .inl (pg1))), (mc, .inl (E.2.1 1, 9, .inl (cf))), (ml, .inl (E.2.1 1, 35, .inl (lf))), (ma, .inl (E.2.1 1, 172, .inl (f))), (mk, .inl (E.2.1 3, 2, .inl (kp)))]) (by rw [if_pos c_71, if_pos c_71]) ?_
                        refine v_aload_n (pc := 139) 1 dX5_text_139 rfl rfl ?_
                        refine v_iconst (pc := 140) (v := 0) dX5_text_140 (by decide) ?_
                        refine pf_799 (pc := 141) (ws' := [(m0, .inr (5, [.ref ma, .int (nI nt), .int (nI pp), .int (th), .ref mp, .int (rn1), .int (ro1), .int (to1), .int (wt1), .int (hn1), .int (ho1), .ref mt, .int (0), .int (fa), .int (7), .int (nI he1), .int ((nI sq1)), .int ((nI he1)), .int (tok1), .int (val1), .ref mc, .ref ml, .ref mn, .int (nI se), .ref mk, .ref mg, .ref mh, .ref mq, .int (tn)])), (mt, .inl (E.2.1 1, 160, .inl (by_))), (mp, .inl (E.2.1 1, 43, .inl (pg1))), (mc, .inl (E.2.1 1, 9, .inl (cf))), (ml, .inl (E.2.1 1, 35, .inl (lf))), (ma, .inl (E.2.1 1, 172, .inl (f))), (mk, .inl (E.2.1 3, 2, .inl (kp)))]) 0 dX5_text_141 rfl rfl rfl (Nat.le_of_ble_eq_true rfl) rfl ?_
                        refine v_aload_n (pc := 144) 1 dX5_text_144 rfl rfl ?_
                        refine v_aload_n (pc := 145) 1 dX5_text_145 rfl rfl ?_
                        refine gf_801 (pc := 146) 0 dX5_text_146 rfl rfl ?_
                        refine pf_800 (pc := 149) (ws' := [(m0, .inr (5, [.ref ma, .int (nI nt), .int (nI pp), .int (th), .ref mp, .int (rn1), .int (ro1), .int (to1), .int (wt1), .int (hn1), .int (ho1), .ref mt, .int (0), .int (7), .int (7), .int (nI he1), .int ((nI sq1)), .int ((nI he1)), .int (tok1), .int (val1), .ref mc, .ref ml, .ref mn, .int (nI se), .ref mk, .ref mg, .ref mh, .ref mq, .int (tn)])), (mt, .inl (E.2.1 1, 160, .inl (by_))), (mp, .inl (E.2.1 1, 43, .inl (pg1))), (mc, .inl (E.2.1 1, 9, .inl (cf))), (ml, .inl (E.2.1 1, 35, .inl (lf))), (ma, .inl (E.2.1 1, 172, .inl (f))), (mk, .inl (E.2.1 3, 2, .inl (kp)))]) 0 dX5_text_149 rfl rfl rfl (Nat.le_of_ble_eq_true rfl) rfl ?_
                        refine v_aload_n (pc := 152) 1 dX5_text_152 rfl rfl ?_
                        refine gf_801 (pc := 153) 0 dX5_text_153 rfl rfl ?_
                        refine v_if_le (pc := 156) 167 dX5_text_156 (by decide) (fun c => absurd c (by decide)) (fun _ => ?_)
                        refine v_bipush (pc := 159) (v := -10) dX5_text_159 (by decide) ?_
                        refine v_aload_n (pc := 161) 1 dX5_text_161 rfl rfl ?_
                        refine gf_802 (pc := 162) 0 dX5_text_162 rfl rfl ?_
                        refine v_isub (pc := 165) dX5_text_165 ?_
                        refine v_iret (pc := 166) dX5_text_166 rfl ⟨rfl, rfl⟩ ⟨(7), (nI he1), (sq1), (he1), (tok1), (val1), (wt1), (hn1), (ho1), (rn1), (ro1), (to1), (pg1), (7), ?_, rfl, ?_⟩
                        · skip
                          obtain ⟨e1, e2, e3, e4, e5, e6⟩ := TI_end h_67_1 h_67_0 c_71 c_78
                          rw [if_pos c_106, if_neg c_130] at e2
                          rw [e3, e4]
                        · skip
                          obtain ⟨e1, e2, e3, e4, e5, e6⟩ := TI_end h_67_1 h_67_0 c_71 c_78
                          rw [if_pos c_106, if_neg c_130] at e2
                          exact e2.symm
                  · skip
                    refine v_aload_n (pc := 109) 1 dX5_text_109 rfl rfl ?_
                    refine v_bipush (pc := 110) (v := 6) dX5_text_110 (by decide) ?_
                    refine v_callV (pc := 112) (rest := []) [0] 0 lk_903 (c_X5_fails l E m0 ma mp mt mc ml mn mk mg mh mq nt pp tl se th rn1 ro1 to1 wt1 hn1 ho1 fa bk1 ba1 (nI sq1) (nI he1) tok1 val1 tn 6) dX5_text_112 rfl rfl (Nat.le_of_ble_eq_true rfl) (by decide) rfl rfl rfl (by decide) rfl (Rt.len rfl) (Rt.go ?_)
                    refine v_w (ws' := [(m0, .inr (5, [.ref ma, .int (nI nt), .int (nI pp), .int (th), .ref mp, .int (rn1), .int (ro1), .int (to1), .int (wt1), .int (hn1), .int (ho1), .ref mt, .int (nI tl), .int (fa), .int (if bk1 = 0 then 6 else bk1), .int (if bk1 = 0 then (nI he1) else ba1), .int ((nI sq1)), .int ((nI he1)), .int (tok1), .int (val1), .ref mc, .ref ml, .ref mn, .int (nI se), .ref mk, .ref mg, .ref mh, .ref mq, .int (tn)])), (mt, .inl (E.2.1 1, 160, .inl (by_))), (mp, .inl (E.2.1 1, 43, .inl (pg1))), (mc, .inl (E.2.1 1, 9, .inl (cf))), (ml, .inl (E.2.1 1, 35, .inl (lf))), (ma, .inl (E.2.1 1, 172, .inl (f))), (mk, .inl (E.2.1 3, 2, .inl (kp)))]) rfl ?_
                    refine v_st (st' := []) rfl ?_
                    refine v_w (ws' := [(m0, .inr (5, [.ref ma, .int (nI nt), .int (nI pp), .int (th), .ref mp, .int (rn1), .int (ro1), .int (to1), .int (wt1), .int (hn1), .int (ho1), .ref mt, .int (nI tl), .int (fa), .int (6), .int (nI he1), .int ((nI sq1)), .int ((nI he1)), .int (tok1), .int (val1), .ref mc, .ref ml, .ref mn, .int (nI se), .ref mk, .ref mg, .ref mh, .ref mq, .int (tn)])), (mt, .inl (E.2.1 1, 160, .inl (by_))), (mp, .inl (E.2.1 1, 43, .inl (pg1))), (mc, .inl (E.2.1 1, 9, .inl (cf))), (ml, .inl (E.2.1 1, 35, .inl (lf))), (ma, .inl (E.2.1 1, 172, .inl (f))), (mk, .inl (E.2.1 3, 2, .inl (kp)))]) (by rw [if_pos c_71, if_pos c_71]) ?_
                    refine v_aload_n (pc := 115) 1 dX5_text_115 rfl rfl ?_
                    refine gf_801 (pc := 116) 0 dX5_text_116 rfl rfl ?_
                    refine v_if_ne (pc := 119) 139 dX5_text_119 (by decide) (fun _ => ?_) (fun c => absurd c (by decide))
                    refine v_aload_n (pc := 139) 1 dX5_text_139 rfl rfl ?_
                    refine v_iconst (pc := 140) (v := 0) dX5_text_140 (by decide) ?_
                    refine pf_799 (pc := 141) (ws' := [(m0, .inr (5, [.ref ma, .int (nI nt), .int (nI pp), .int (th), .ref mp, .int (rn1), .int (ro1), .int (to1), .int (wt1), .int (hn1), .int (ho1), .ref mt, .int (0), .int (fa), .int (6), .int (nI he1), .int ((nI sq1)), .int ((nI he1)), .int (tok1), .int (val1), .ref mc, .ref ml, .ref mn, .int (nI se), .ref mk, .ref mg, .ref mh, .ref mq, .int (tn)])), (mt, .inl (E.2.1 1, 160, .inl (by_))), (mp, .inl (E.2.1 1, 43, .inl (pg1))), (mc, .inl (E.2.1 1, 9, .inl (cf))), (ml, .inl (E.2.1 1, 35, .inl (lf))), (ma, .inl (E.2.1 1, 172, .inl (f))), (mk, .inl (E.2.1 3, 2, .inl (kp)))]) 0 dX5_text_141 rfl rfl rfl (Nat.le_of_ble_eq_true rfl) rfl ?_
                    refine v_aload_n (pc := 144) 1 dX5_text_144 rfl rfl ?_
                    refine v_aload_n (pc := 145) 1 dX5_text_145 rfl rfl ?_
                    refine gf_801 (pc := 146) 0 dX5_text_146 rfl rfl ?_
                    refine pf_800 (pc := 149) (ws' := [(m0, .inr (5, [.ref ma, .int (nI nt), .int (nI pp), .int (th), .ref mp, .int (rn1), .int (ro1), .int (to1), .int (wt1), .int (hn1), .int (ho1), .ref mt, .int (0), .int (6), .int (6), .int (nI he1), .int ((nI sq1)), .int ((nI he1)), .int (tok1), .int (val1), .ref mc, .ref ml, .ref mn, .int (nI se), .ref mk, .ref mg, .ref mh, .ref mq, .int (tn)])), (mt, .inl (E.2.1 1, 160, .inl (by_))), (mp, .inl (E.2.1 1, 43, .inl (pg1))), (mc, .inl (E.2.1 1, 9, .inl (cf))), (ml, .inl (E.2.1 1, 35, .inl (lf))), (ma, .inl (E.2.1 1, 172, .inl (f))), (mk, .inl (E.2.1 3, 2, .inl (kp)))]) 0 dX5_text_149 rfl rfl rfl (Nat.le_of_ble_eq_true rfl) rfl ?_
                    refine v_aload_n (pc := 152) 1 dX5_text_152 rfl rfl ?_
                    refine gf_801 (pc := 153) 0 dX5_text_153 rfl rfl ?_
                    refine v_if_le (pc := 156) 167 dX5_text_156 (by decide) (fun c => absurd c (by decide)) (fun _ => ?_)
                    refine v_bipush (pc := 159) (v := -10) dX5_text_159 (by decide) ?_
                    refine v_aload_n (pc := 161) 1 dX5_text_161 rfl rfl ?_
                    refine gf_802 (pc := 162) 0 dX5_text_162 rfl rfl ?_
                    refine v_isub (pc := 165) dX5_text_165 ?_
                    refine v_iret (pc := 166) dX5_text_166 rfl ⟨rfl, rfl⟩ ⟨(6), (nI he1), (sq1), (he1), (tok1), (val1), (wt1), (hn1), (ho1), (rn1), (ro1), (to1), (pg1), (6), ?_, rfl, ?_⟩
                    · skip
                      obtain ⟨e1, e2, e3, e4, e5, e6⟩ := TI_end h_67_1 h_67_0 c_71 c_78
                      rw [if_neg c_106] at e2
                      rw [e3, e4]
                    · skip
                      obtain ⟨e1, e2, e3, e4, e5, e6⟩ := TI_end h_67_1 h_67_0 c_71 c_78
                      rw [if_neg c_106] at e2
                      exact e2.symm
              · skip
                refine v_aload_n (pc := 81) 1 dX5_text_81 rfl rfl ?_
                refine v_callV (pc := 82) (rest := []) [0, 1, 2, 3, 4] 0 lk_907 (c_X5_readLine l E m0 ma mp mt mc ml mn mk mg mh mq nt pp tl se th rn1 ro1 to1 wt1 hn1 ho1 fa bk1 ba1 tok1 val1 tn sq1 he1 by_ s1 cf lf pg1 h_tl h_b c_71 h_67_0.1 h_67_0.2.1 (h_67_1.1 (h_67_0.at c_71).1).2.2.1 (h_67_1.1 (h_67_0.at c_71).1).2.2.2 (h_67_1.1 (h_67_0.at c_71).1).2.1 h_cf h_lf) dX5_text_82 rfl rfl (Nat.le_of_ble_eq_true rfl) (by decide) rfl rfl rfl (by decide) rfl (by rintro _ _ ⟨_, _, _, _, _, _, _, _, _, _, _, _, _, _, rfl, _⟩; rfl) ?_
                rintro _ _ ⟨bk_82, ba_82, sp_82, he_82, to_82, va_82, wt_82, hn_82, ho_82, rn_82, ro_82, pg_82, tc_82, rfl, rfl, hf82_0, hf82_1⟩
                refine v_w (ws' := [(m0, .inr (5, [.ref ma, .int (nI nt), .int (nI pp), .int (th), .ref mp, .int (rn_82), .int (ro_82), .int (tc_82), .int (wt_82), .int (hn_82), .int (ho_82), .ref mt, .int (nI tl), .int (fa), .int (bk_82), .int (ba_82), .int (nI sp_82), .int (nI he_82), .int (to_82), .int (va_82), .ref mc, .ref ml, .ref mn, .int (nI se), .ref mk, .ref mg, .ref mh, .ref mq, .int (tn)])), (mt, .inl (E.2.1 1, 160, .inl (by_))), (mp, .inl (E.2.1 1, 43, .inl (pg_82))), (mc, .inl (E.2.1 1, 9, .inl (cf))), (ml, .inl (E.2.1 1, 35, .inl (lf))), (ma, .inl (E.2.1 1, 172, .inl (f))), (mk, .inl (E.2.1 3, 2, .inl (kp)))]) rfl ?_
                refine v_st (st' := []) rfl ?_
                refine v_iinc (pc := 85) (v := nI (i + 1)) (lv' := [(1, .int (nI (i + 1))), (0, .ref m0)]) 0 dX5_text_85 rfl (nI_inc (i) 1) (by decide) rfl ?_
                refine v_goto (pc := 88) 67 dX5_text_88 (by decide) ?_
                refine v_lv (lv' := [(1, .int (nI (i + 1))), (0, .ref m0)]) [0, 1] rfl ?_
                refine ih_67 bk_82 ba_82 sp_82 he_82 to_82 va_82 tc_82 wt_82 hn_82 ho_82 rn_82 ro_82 pg_82 (lnC by_ tl tok1 he1 sq1 s1) (lnP by_ tl tok1 he1 sq1 s1) (i + 1) (by have := (TI_line h_67_1 h_67_0 c_71 c_78 hf82_1).2; omega) ?_ ?_
                · exact hf82_0
                · exact (TI_line h_67_1 h_67_0 c_71 c_78 hf82_1).1
        refine v_lv (lv' := [(1, .int (nI 0)), (0, .ref m0)]) [1, 2] rfl ?_
        refine loop_67 ((mes tl ((0, 0))) + 1) bk_64 ba_64 sp_64 he_64 to_64 va_64 0 0 (-1) (-1) 3 2 pgk (0, 0) (PS.mk 0 0 0 0 0 0 0 0 3 2 on3 wr3 nd3 br3 (fillI wo3 0 6)) 0 (Nat.lt_succ_self _) ?_ ?_
        · exact hf64_0
        · refine ⟨fun _ => ⟨rfl, GS_0, rfl, PR_0 (fun j hj => h_44_0 j (by omega))⟩, fun q => absurd rfl q⟩
      · skip
        refine v_aload_n (pc := 50) 2 dX5_text_50 rfl rfl ?_
        refine gf_791 (pc := 51) 0 dX5_text_51 rfl rfl ?_
        refine v_iload_n (pc := 54) 0 dX5_text_54 rfl rfl ?_
        refine v_iconst (pc := 55) (v := 0) dX5_text_55 (by decide) ?_
        refine v_iastN (pc := 56) (ws' := [(m0, .inr (5, [.ref ma, .int (nI nt), .int (nI pp), .int (th), .ref mp, .int (3), .int (2), .int (0), .int (0), .int (-1), .int (-1), .ref mt, .int (nI tl), .int (fa), .int (0), .int (ba), .int (0), .int (nI he), .int (tok), .int (val), .ref mc, .ref ml, .ref mn, .int (nI se), .ref mk, .ref mg, .ref mh, .ref mq, .int (tn)])), (mt, .inl (E.2.1 1, 160, .inl (by_))), (mp, .inl (E.2.1 1, 43, .inl (upd (pgk) (k) (0)))), (mc, .inl (E.2.1 1, 9, .inl (cf))), (ml, .inl (E.2.1 1, 35, .inl (lf))), (ma, .inl (E.2.1 1, 172, .inl (f))), (mk, .inl (E.2.1 3, 2, .inl (kp)))]) 2 1 (k) dX5_text_56 rfl rfl rfl (by omega) (by decide) rfl ?_
        refine v_iinc (pc := 57) (v := nI (k + 1)) (lv' := [(2, .int (nI (k + 1))), (1, .int (0)), (0, .ref m0)]) 0 dX5_text_57 rfl (nI_inc (k) 1) (by decide) rfl ?_
        refine v_goto (pc := 60) 44 dX5_text_60 (by decide) ?_
        refine v_lv (lv' := [(2, .int (nI (k + 1))), (1, .int (0)), (0, .ref m0)]) [0, 1, 2] rfl ?_
        refine ih_44 (k + 1) (upd (pgk) (k) (0)) (by omega) ?_ ?_
        · intro j hj; simp only [upd]; split; · rfl
          · exact h_44_0 j (by omega)
        · omega
  refine v_lv (lv' := [(2, .int (nI 0)), (1, .int (0)), (0, .ref m0)]) [0, 1, 2] rfl ?_
  refine loop_44 ((43 - 0) + 1) 0 pg (Nat.lt_succ_self _) ?_ ?_
  · intro j hj; omega
  · omega
theorem c_X5_text (l : Launch) (E : VE) (m0 : Nat) (ma : Nat) (mp : Nat) (mt : Nat) (mc : Nat) (ml : Nat) (mn : Nat) (mk : Nat) (mg : Nat) (mh : Nat) (mq : Nat) (nt : Nat) (pp : Nat) (tl : Nat) (se : Nat) (th : Int32) (rn : Int32) (ro : Int32) (to : Int32) (wt : Int32) (hn : Int32) (ho : Int32) (fa : Int32) (bk : Int32) (ba : Int32) (tok : Int32) (val : Int32) (tn : Int32) (f : Nat → Int32) (sq : Nat) (he : Nat) (by_ : Nat → Int32) (on3 : Nat → Int32) (wr3 : Nat → Int32) (nd3 : Nat → Int32) (br3 : Nat → Int32) (wo3 : Nat → Int32) (cf : Nat → Int32) (lf : Nat → Int32) (pg : Nat → Int32) (kp : Nat → Int32) (h_tl : tl ≤ 160) (h_b : ∀ j, ¬ by_ j = -4) (h_cf : ∀ k, k < 9 → cf k = nI (cutT.getD k 0)) (h_lf : ∀ k, k < 35 → lf k = letT.getD k 0) (h_f : fltL (lnAll by_ tl (tl + 1) 0 (PS.mk 0 0 0 0 0 0 0 0 3 2 on3 wr3 nd3 br3 (fillI wo3 0 6)) 0) = 0) : Ct l E yX5_text cX5_text 3 (Option.some FieldType.int) 7 156 0 0 [.ref m0] [(m0, .inr (5, [.ref ma, .int (nI nt), .int (nI pp), .int (th), .ref mp, .int (rn), .int (ro), .int (to), .int (wt), .int (hn), .int (ho), .ref mt, .int (nI tl), .int (fa), .int (bk), .int (ba), .int (nI sq), .int (nI he), .int (tok), .int (val), .ref mc, .ref ml, .ref mn, .int (nI se), .ref mk, .ref mg, .ref mh, .ref mq, .int (tn)])), (mt, .inl (E.2.1 1, 160, .inl (by_))), (mp, .inl (E.2.1 1, 43, .inl (pg))), (mc, .inl (E.2.1 1, 9, .inl (cf))), (ml, .inl (E.2.1 1, 35, .inl (lf))), (ma, .inl (E.2.1 1, 172, .inl (f))), (mk, .inl (E.2.1 3, 2, .inl (kp)))] (fun v wd => ∃ (bk_ : Int32) (ba_ : Int32) (sp_ : Nat) (he_ : Nat) (to_ : Int32) (va_ : Int32) (wt_ : Int32) (hn_ : Int32) (ho_ : Int32) (rn_ : Int32) (ro_ : Int32) (tc_ : Int32) (pg_ : Nat → Int32) (fa_ : Int32) (f_ : Nat → Int32), v = some (.int (nI (lnAll by_ tl (tl + 1) 0 (PS.mk 0 0 0 0 0 0 0 0 3 2 on3 wr3 nd3 br3 (fillI wo3 0 6)) 0).2.2)) ∧ wd = [(m0, .inr (5, [.ref ma, .int (rn_), .int (ro_), .int (th), .ref mp, .int (rn_), .int (ro_), .int (tc_), .int (wt_), .int (hn_), .int (ho_), .ref mt, .int (0), .int (fa_), .int (bk_), .int (ba_), .int (nI sp_), .int (nI he_), .int (to_), .int (va_), .ref mc, .ref ml, .ref mn, .int (0), .ref mk, .ref mg, .ref mh, .ref mq, .int (tn)])), (mt, .inl (E.2.1 1, 160, .inl (by_))), (mp, .inl (E.2.1 1, 43, .inl (pg_))), (mc, .inl (E.2.1 1, 9, .inl (cf))), (ml, .inl (E.2.1 1, 35, .inl (lf))), (ma, .inl (E.2.1 1, 172, .inl (f_))), (mk, .inl (E.2.1 3, 2, .inl (upd (upd kp 0 (vp_nar .boolean 0)) 1 (vp_nar .boolean 0))))] ∧ (fa_ = 0) ∧ (rn_ = nI (lnAll by_ tl (tl + 1) 0 (PS.mk 0 0 0 0 0 0 0 0 3 2 on3 wr3 nd3 br3 (fillI wo3 0 6)) 0).2.1.kn) ∧ (ro_ = nI (lnAll by_ tl (tl + 1) 0 (PS.mk 0 0 0 0 0 0 0 0 3 2 on3 wr3 nd3 br3 (fillI wo3 0 6)) 0).2.1.kp) ∧ (GS (lnAll by_ tl (tl + 1) 0 (PS.mk 0 0 0 0 0 0 0 0 3 2 on3 wr3 nd3 br3 (fillI wo3 0 6)) 0).2.1) ∧ (PG (lnAll by_ tl (tl + 1) 0 (PS.mk 0 0 0 0 0 0 0 0 3 2 on3 wr3 nd3 br3 (fillI wo3 0 6)) 0).2.1 pg_) ∧ (∀ j, f_ j = if j < 43 then pg_ j else f j)) := by
  refine Ct.of (own := RX5) (nm := "text") (lv := [(0, .ref m0)]) (by decide) rfl rfl (Nat.le_of_ble_eq_true rfl) rfl ?_
  refine v_aload_n (pc := 0) 0 dX5_text_0 rfl rfl ?_
  refine v_iconst (pc := 1) (v := 0) dX5_text_1 (by decide) ?_
  refine pf_801 (pc := 2) (ws' := [(m0, .inr (5, [.ref ma, .int (nI nt), .int (nI pp), .int (th), .ref mp, .int (rn), .int (ro), .int (to), .int (wt), .int (hn), .int (ho), .ref mt, .int (nI tl), .int (fa), .int (0), .int (ba), .int (nI sq), .int (nI he), .int (tok), .int (val), .ref mc, .ref ml, .ref mn, .int (nI se), .ref mk, .ref mg, .ref mh, .ref mq, .int (tn)])), (mt, .inl (E.2.1 1, 160, .inl (by_))), (mp, .inl (E.2.1 1, 43, .inl (pg))), (mc, .inl (E.2.1 1, 9, .inl (cf))), (ml, .inl (E.2.1 1, 35, .inl (lf))), (ma, .inl (E.2.1 1, 172, .inl (f))), (mk, .inl (E.2.1 3, 2, .inl (kp)))]) 0 dX5_text_2 rfl rfl rfl (Nat.le_of_ble_eq_true rfl) rfl ?_
  refine v_aload_n (pc := 5) 0 dX5_text_5 rfl rfl ?_
  refine v_iconst (pc := 6) (v := 0) dX5_text_6 (by decide) ?_
  refine pf_803 (pc := 7) (ws' := [(m0, .inr (5, [.ref ma, .int (nI nt), .int (nI pp), .int (th), .ref mp, .int (rn), .int (ro), .int (to), .int (wt), .int (hn), .int (ho), .ref mt, .int (nI tl), .int (fa), .int (0), .int (ba), .int (0), .int (nI he), .int (tok), .int (val), .ref mc, .ref ml, .ref mn, .int (nI se), .ref mk, .ref mg, .ref mh, .ref mq, .int (tn)])), (mt, .inl (E.2.1 1, 160, .inl (by_))), (mp, .inl (E.2.1 1, 43, .inl (pg))), (mc, .inl (E.2.1 1, 9, .inl (cf))), (ml, .inl (E.2.1 1, 35, .inl (lf))), (ma, .inl (E.2.1 1, 172, .inl (f))), (mk, .inl (E.2.1 3, 2, .inl (kp)))]) 0 dX5_text_7 rfl rfl rfl (Nat.le_of_ble_eq_true rfl) rfl ?_
  refine v_aload_n (pc := 10) 0 dX5_text_10 rfl rfl ?_
  refine v_iconst (pc := 11) (v := 3) dX5_text_11 (by decide) ?_
  refine pf_792 (pc := 12) (ws' := [(m0, .inr (5, [.ref ma, .int (nI nt), .int (nI pp), .int (th), .ref mp, .int (3), .int (ro), .int (to), .int (wt), .int (hn), .int (ho), .ref mt, .int (nI tl), .int (fa), .int (0), .int (ba), .int (0), .int (nI he), .int (tok), .int (val), .ref mc, .ref ml, .ref mn, .int (nI se), .ref mk, .ref mg, .ref mh, .ref mq, .int (tn)])), (mt, .inl (E.2.1 1, 160, .inl (by_))), (mp, .inl (E.2.1 1, 43, .inl (pg))), (mc, .inl (E.2.1 1, 9, .inl (cf))), (ml, .inl (E.2.1 1, 35, .inl (lf))), (ma, .inl (E.2.1 1, 172, .inl (f))), (mk, .inl (E.2.1 3, 2, .inl (kp)))]) 0 dX5_text_12 rfl rfl rfl (Nat.le_of_ble_eq_true rfl) rfl ?_
  refine v_aload_n (pc := 15) 0 dX5_text_15 rfl rfl ?_
  refine v_iconst (pc := 16) (v := 2) dX5_text_16 (by decide) ?_
  refine pf_793 (pc := 17) (ws' := [(m0, .inr (5, [.ref ma, .int (nI nt), .int (nI pp), .int (th), .ref mp, .int (3), .int (2), .int (to), .int (wt), .int (hn), .int (ho), .ref mt, .int (nI tl), .int (fa), .int (0), .int (ba), .int (0), .int (nI he), .int (tok), .int (val), .ref mc, .ref ml, .ref mn, .int (nI se), .ref mk, .ref mg, .ref mh, .ref mq, .int (tn)])), (mt, .inl (E.2.1 1, 160, .inl (by_))), (mp, .inl (E.2.1 1, 43, .inl (pg))), (mc, .inl (E.2.1 1, 9, .inl (cf))), (ml, .inl (E.2.1 1, 35, .inl (lf))), (ma, .inl (E.2.1 1, 172, .inl (f))), (mk, .inl (E.2.1 3, 2, .inl (kp)))]) 0 dX5_text_17 rfl rfl rfl (Nat.le_of_ble_eq_true rfl) rfl ?_
  refine v_aload_n (pc := 20) 0 dX5_text_20 rfl rfl ?_
  refine v_iconst (pc := 21) (v := 0) dX5_text_21 (by decide) ?_
  refine pf_794 (pc := 22) (ws' := [(m0, .inr (5, [.ref ma, .int (nI nt), .int (nI pp), .int (th), .ref mp, .int (3), .int (2), .int (0), .int (wt), .int (hn), .int (ho), .ref mt, .int (nI tl), .int (fa), .int (0), .int (ba), .int (0), .int (nI he), .int (tok), .int (val), .ref mc, .ref ml, .ref mn, .int (nI se), .ref mk, .ref mg, .ref mh, .ref mq, .int (tn)])), (mt, .inl (E.2.1 1, 160, .inl (by_))), (mp, .inl (E.2.1 1, 43, .inl (pg))), (mc, .inl (E.2.1 1, 9, .inl (cf))), (ml, .inl (E.2.1 1, 35, .inl (lf))), (ma, .inl (E.2.1 1, 172, .inl (f))), (mk, .inl (E.2.1 3, 2, .inl (kp)))]) 0 dX5_text_22 rfl rfl rfl (Nat.le_of_ble_eq_true rfl) rfl ?_
  refine v_aload_n (pc := 25) 0 dX5_text_25 rfl rfl ?_
  refine v_iconst (pc := 26) (v := 0) dX5_text_26 (by decide) ?_
  refine pf_795 (pc := 27) (ws' := [(m0, .inr (5, [.ref ma, .int (nI nt), .int (nI pp), .int (th), .ref mp, .int (3), .int (2), .int (0), .int (0), .int (hn), .int (ho), .ref mt, .int (nI tl), .int (fa), .int (0), .int (ba), .int (0), .int (nI he), .int (tok), .int (val), .ref mc, .ref ml, .ref mn, .int (nI se), .ref mk, .ref mg, .ref mh, .ref mq, .int (tn)])), (mt, .inl (E.2.1 1, 160, .inl (by_))), (mp, .inl (E.2.1 1, 43, .inl (pg))), (mc, .inl (E.2.1 1, 9, .inl (cf))), (ml, .inl (E.2.1 1, 35, .inl (lf))), (ma, .inl (E.2.1 1, 172, .inl (f))), (mk, .inl (E.2.1 3, 2, .inl (kp)))]) 0 dX5_text_27 rfl rfl rfl (Nat.le_of_ble_eq_true rfl) rfl ?_
  refine v_aload_n (pc := 30) 0 dX5_text_30 rfl rfl ?_
  refine v_iconst (pc := 31) (v := -1) dX5_text_31 (by decide) ?_
  refine pf_796 (pc := 32) (ws' := [(m0, .inr (5, [.ref ma, .int (nI nt), .int (nI pp), .int (th), .ref mp, .int (3), .int (2), .int (0), .int (0), .int (-1), .int (ho), .ref mt, .int (nI tl), .int (fa), .int (0), .int (ba), .int (0), .int (nI he), .int (tok), .int (val), .ref mc, .ref ml, .ref mn, .int (nI se), .ref mk, .ref mg, .ref mh, .ref mq, .int (tn)])), (mt, .inl (E.2.1 1, 160, .inl (by_))), (mp, .inl (E.2.1 1, 43, .inl (pg))), (mc, .inl (E.2.1 1, 9, .inl (cf))), (ml, .inl (E.2.1 1, 35, .inl (lf))), (ma, .inl (E.2.1 1, 172, .inl (f))), (mk, .inl (E.2.1 3, 2, .inl (kp)))]) 0 dX5_text_32 rfl rfl rfl (Nat.le_of_ble_eq_true rfl) rfl ?_
  refine v_aload_n (pc := 35) 0 dX5_text_35 rfl rfl ?_
  refine v_iconst (pc := 36) (v := -1) dX5_text_36 (by decide) ?_
  refine pf_797 (pc := 37) (ws' := [(m0, .inr (5, [.ref ma, .int (nI nt), .int (nI pp), .int (th), .ref mp, .int (3), .int (2), .int (0), .int (0), .int (-1), .int (-1), .ref mt, .int (nI tl), .int (fa), .int (0), .int (ba), .int (0), .int (nI he), .int (tok), .int (val), .ref mc, .ref ml, .ref mn, .int (nI se), .ref mk, .ref mg, .ref mh, .ref mq, .int (tn)])), (mt, .inl (E.2.1 1, 160, .inl (by_))), (mp, .inl (E.2.1 1, 43, .inl (pg))), (mc, .inl (E.2.1 1, 9, .inl (cf))), (ml, .inl (E.2.1 1, 35, .inl (lf))), (ma, .inl (E.2.1 1, 172, .inl (f))), (mk, .inl (E.2.1 3, 2, .inl (kp)))]) 0 dX5_text_37 rfl rfl rfl (Nat.le_of_ble_eq_true rfl) rfl ?_
  refine v_iconst (pc := 40) (v := 0) dX5_text_40 (by decide) ?_
  refine v_istore_n (pc := 41) (lv' := [(1, .int (0)), (0, .ref m0)]) dX5_text_41 rfl (by decide) rfl ?_
  refine v_iconst (pc := 42) (v := 0) dX5_text_42 (by decide) ?_
  refine v_istore_n (pc := 43) (lv' := [(2, .int (0)), (1, .int (0)), (0, .ref m0)]) dX5_text_43 rfl (by decide) rfl ?_
  have loop_44 : ∀ (D_44 : Nat) (k : Nat) (pgk : Nat → Int32), 43 - k < D_44 → (∀ j, j < k → pgk j = 0) → (k ≤ 43) → V l E RX5 cX5_text 3 (Option.some FieldType.int) "text" ({ frames := 7, cells := 0, slots := 0, locals := 156 }) [(m0, .inr (5, [.ref ma, .int (nI nt), .int (nI pp), .int (th), .ref mp, .int (rn), .int (ro), .int (to), .int (wt), .int (hn), .int (ho), .ref mt, .int (nI tl), .int (fa), .int (bk), .int (ba), .int (nI sq), .int (nI he), .int (tok), .int (val), .ref mc, .ref ml, .ref mn, .int (nI se), .ref mk, .ref mg, .ref mh, .ref mq, .int (tn)])), (mt, .inl (E.2.1 1, 160, .inl (by_))), (mp, .inl (E.2.1 1, 43, .inl (pg))), (mc, .inl (E.2.1 1, 9, .inl (cf))), (ml, .inl (E.2.1 1, 35, .inl (lf))), (ma, .inl (E.2.1 1, 172, .inl (f))), (mk, .inl (E.2.1 3, 2, .inl (kp)))] 0 0 (fun v wd => ∃ (bk_ : Int32) (ba_ : Int32) (sp_ : Nat) (he_ : Nat) (to_ : Int32) (va_ : Int32) (wt_ : Int32) (hn_ : Int32) (ho_ : Int32) (rn_ : Int32) (ro_ : Int32) (tc_ : Int32) (pg_ : Nat → Int32) (fa_ : Int32) (f_ : Nat → Int32), v = some (.int (nI (lnAll by_ tl (tl + 1) 0 (PS.mk 0 0 0 0 0 0 0 0 3 2 on3 wr3 nd3 br3 (fillI wo3 0 6)) 0).2.2)) ∧ wd = [(m0, .inr (5, [.ref ma, .int (rn_), .int (ro_), .int (th), .ref mp, .int (rn_), .int (ro_), .int (tc_), .int (wt_), .int (hn_), .int (ho_), .ref mt, .int (0), .int (fa_), .int (bk_), .int (ba_), .int (nI sp_), .int (nI he_), .int (to_), .int (va_), .ref mc, .ref ml, .ref mn, .int (0), .ref mk, .ref mg, .ref mh, .ref mq, .int (tn)])), (mt, .inl (E.2.1 1, 160, .inl (by_))), (mp, .inl (E.2.1 1, 43, .inl (pg_))), (mc, .inl (E.2.1 1, 9, .inl (cf))), (ml, .inl (E.2.1 1, 35, .inl (lf))), (ma, .inl (E.2.1 1, 172, .inl (f_))), (mk, .inl (E.2.1 3, 2, .inl (upd (upd kp 0 (vp_nar .boolean 0)) 1 (vp_nar .boolean 0))))] ∧ (fa_ = 0) ∧ (rn_ = nI (lnAll by_ tl (tl + 1) 0 (PS.mk 0 0 0 0 0 0 0 0 3 2 on3 wr3 nd3 br3 (fillI wo3 0 6)) 0).2.1.kn) ∧ (ro_ = nI (lnAll by_ tl (tl + 1) 0 (PS.mk 0 0 0 0 0 0 0 0 3 2 on3 wr3 nd3 br3 (fillI wo3 0 6)) 0).2.1.kp) ∧ (GS (lnAll by_ tl (tl + 1) 0 (PS.mk 0 0 0 0 0 0 0 0 3 2 on3 wr3 nd3 br3 (fillI wo3 0 6)) 0).2.1) ∧ (PG (lnAll by_ tl (tl + 1) 0 (PS.mk 0 0 0 0 0 0 0 0 3 2 on3 wr3 nd3 br3 (fillI wo3 0 6)) 0).2.1 pg_) ∧ (∀ j, f_ j = if j < 43 then pg_ j else f j)) 0 0 44 [(2, .int (nI k)), (1, .int (0)), (0, .ref m0)] [] [(m0, .inr (5, [.ref ma, .int (nI nt), .int (nI pp), .int (th), .ref mp, .int (3), .int (2), .int (0), .int (0), .int (-1), .int (-1), .ref mt, .int (nI tl), .int (fa), .int (0), .int (ba), .int (0), .int (nI he), .int (tok), .int (val), .ref mc, .ref ml, .ref mn, .int (nI se), .ref mk, .ref mg, .ref mh, .ref mq, .int (tn)])), (mt, .inl (E.2.1 1, 160, .inl (by_))), (mp, .inl (E.2.1 1, 43, .inl (pgk))), (mc, .inl (E.2.1 1, 9, .inl (cf))), (ml, .inl (E.2.1 1, 35, .inl (lf))), (ma, .inl (E.2.1 1, 172, .inl (f))), (mk, .inl (E.2.1 3, 2, .inl (kp)))] := by
    intro D_44
    induction D_44 with
    | zero => intro k pgk h; exact absurd h (Nat.not_lt_zero _)
    | succ D_44 ih_44 =>
      intro k pgk hmu_44 h_44_0 h_44_1
      refine v_iload_n (pc := 44) 0 dX5_text_44 rfl rfl ?_
      refine v_bipush (pc := 45) (v := 43) dX5_text_45 (by decide) ?_
      refine v_cmpN_ge (pc := 47) (a := k) (b := 43) 63 dX5_text_47 (by decide) (by omega) (by omega) (fun c_47 => ?_) (fun c_47 => ?_)
      · skip
        refine v_aload_n (pc := 63) 2 dX5_text_63 rfl rfl ?_
        refine v_callV (pc := 64) (rest := []) [0, 1] 0 lk_891 (c_X5_step l E m0 ma mp mt mc ml mn mk mg mh mq nt pp tl se th 3 2 0 0 (-1) (-1) fa 0 ba tok val tn he by_ 0 h_tl (Nat.zero_le _) rfl h_b) dX5_text_64 rfl rfl (Nat.le_of_ble_eq_true rfl) (by decide) rfl rfl rfl (by decide) rfl (by rintro _ _ ⟨_, _, _, _, _, _, _, rfl, _⟩; rfl) ?_
        rintro _ _ ⟨bk_64, ba_64, sp_64, he_64, to_64, va_64, rfl, rfl, hf64_0⟩
        refine v_w (ws' := [(m0, .inr (5, [.ref ma, .int (nI nt), .int (nI pp), .int (th), .ref mp, .int (3), .int (2), .int (0), .int (0), .int ((-1)), .int ((-1)), .ref mt, .int (nI tl), .int (fa), .int (bk_64), .int (ba_64), .int (nI sp_64), .int (nI he_64), .int (to_64), .int (va_64), .ref mc, .ref ml, .ref mn, .int (nI se), .ref mk, .ref mg, .ref mh, .ref mq, .int (tn)])), (mt, .inl (E.2.1 1, 160, .inl (by_))), (mp, .inl (E.2.1 1, 43, .inl (pgk))), (mc, .inl (E.2.1 1, 9, .inl (cf))), (ml, .inl (E.2.1 1, 35, .inl (lf))), (ma, .inl (E.2.1 1, 172, .inl (f))), (mk, .inl (E.2.1 3, 2, .inl (kp)))]) rfl ?_
        refine v_st (st' := []) rfl ?_
        have loop_67 : ∀ (D_67 : Nat) (bk1 : Int32) (ba1 : Int32) (sq1 : Nat) (he1 : Nat) (tok1 : Int32) (val1 : Int32) (to1 : Int32) (wt1 : Int32) (hn1 : Int32) (ho1 : Int32) (rn1 : Int32) (ro1 : Int32) (pg1 : Nat → Int32) (r1 : Int32 × Nat) (s1 : PS) (i : Nat), mes tl r1 < D_67 → (Md by_ tl r1 bk1 ba1 sq1 he1 tok1 val1) → (TI by_ tl (lnAll by_ tl (tl + 1) 0 (PS.mk 0 0 0 0 0 0 0 0 3 2 on3 wr3 nd3 br3 (fillI wo3 0 6)) 0) r1 s1 i to1 wt1 hn1 ho1 rn1 ro1 pg1) → V l E RX5 cX5_text 3 (Option.some FieldType.int) "text" ({ frames := 7, cells := 0, slots := 0, locals := 156 }) [(m0, .inr (5, [.ref ma, .int (nI nt), .int (nI pp), .int (th), .ref mp, .int (rn), .int (ro), .int (to), .int (wt), .int (hn), .int (ho), .ref mt, .int (nI tl), .int (fa), .int (bk), .int (ba), .int (nI sq), .int (nI he), .int (tok), .int (val), .ref mc, .ref ml, .ref mn, .int (nI se), .ref mk, .ref mg, .ref mh, .ref mq, .int (tn)])), (mt, .inl (E.2.1 1, 160, .inl (by_))), (mp, .inl (E.2.1 1, 43, .inl (pg))), (mc, .inl (E.2.1 1, 9, .inl (cf))), (ml, .inl (E.2.1 1, 35, .inl (lf))), (ma, .inl (E.2.1 1, 172, .inl (f))), (mk, .inl (E.2.1 3, 2, .inl (kp)))] 0 0 (fun v wd => ∃ (bk_ : Int32) (ba_ : Int32) (sp_ : Nat) (he_ : Nat) (to_ : Int32) (va_ : Int32) (wt_ : Int32) (hn_ : Int32) (ho_ : Int32) (rn_ : Int32) (ro_ : Int32) (tc_ : Int32) (pg_ : Nat → Int32) (fa_ : Int32) (f_ : Nat → Int32), v = some (.int (nI (lnAll by_ tl (tl + 1) 0 (PS.mk 0 0 0 0 0 0 0 0 3 2 on3 wr3 nd3 br3 (fillI wo3 0 6)) 0).2.2)) ∧ wd = [(m0, .inr (5, [.ref ma, .int (rn_), .int (ro_), .int (th), .ref mp, .int (rn_), .int (ro_), .int (tc_), .int (wt_), .int (hn_), .int (ho_), .ref mt, .int (0), .int (fa_), .int (bk_), .int (ba_), .int (nI sp_), .int (nI he_), .int (to_), .int (va_), .ref mc, .ref ml, .ref mn, .int (0), .ref mk, .ref mg, .ref mh, .ref mq, .int (tn)])), (mt, .inl (E.2.1 1, 160, .inl (by_))), (mp, .inl (E.2.1 1, 43, .inl (pg_))), (mc, .inl (E.2.1 1, 9, .inl (cf))), (ml, .inl (E.2.1 1, 35, .inl (lf))), (ma, .inl (E.2.1 1, 172, .inl (f_))), (mk, .inl (E.2.1 3, 2, .inl (upd (upd kp 0 (vp_nar .boolean 0)) 1 (vp_nar .boolean 0))))] ∧ (fa_ = 0) ∧ (rn_ = nI (lnAll by_ tl (tl + 1) 0 (PS.mk 0 0 0 0 0 0 0 0 3 2 on3 wr3 nd3 br3 (fillI wo3 0 6)) 0).2.1.kn) ∧ (ro_ = nI (lnAll by_ tl (tl + 1) 0 (PS.mk 0 0 0 0 0 0 0 0 3 2 on3 wr3 nd3 br3 (fillI wo3 0 6)) 0).2.1.kp) ∧ (GS (lnAll by_ tl (tl + 1) 0 (PS.mk 0 0 0 0 0 0 0 0 3 2 on3 wr3 nd3 br3 (fillI wo3 0 6)) 0).2.1) ∧ (PG (lnAll by_ tl (tl + 1) 0 (PS.mk 0 0 0 0 0 0 0 0 3 2 on3 wr3 nd3 br3 (fillI wo3 0 6)) 0).2.1 pg_) ∧ (∀ j, f_ j = if j < 43 then pg_ j else f j)) 0 0 67 [(1, .int (nI i)), (0, .ref m0)] [] [(m0, .inr (5, [.ref ma, .int (nI nt), .int (nI pp), .int (th), .ref mp, .int (rn1), .int (ro1), .int (to1), .int (wt1), .int (hn1), .int (ho1), .ref mt, .int (nI tl), .int (fa), .int (bk1), .int (ba1), .int (nI sq1), .int (nI he1), .int (tok1), .int (val1), .ref mc, .ref ml, .ref mn, .int (nI se), .ref mk, .ref mg, .ref mh, .ref mq, .int (tn)])), (mt, .inl (E.2.1 1, 160, .inl (by_))), (mp, .inl (E.2.1 1, 43, .inl (pg1))), (mc, .inl (E.2.1 1, 9, .inl (cf))), (ml, .inl (E.2.1 1, 35, .inl (lf))), (ma, .inl (E.2.1 1, 172, .inl (f))), (mk, .inl (E.2.1 3, 2, .inl (kp)))] := by
          intro D_67
          induction D_67 with
          | zero => intro bk1 ba1 sq1 he1 tok1 val1 to1 wt1 hn1 ho1 rn1 ro1 pg1 r1 s1 i h; exact absurd h (Nat.not_lt_zero _)
          | succ D_67 ih_67 =>
            intro bk1 ba1 sq1 he1 tok1 val1 to1 wt1 hn1 ho1 rn1 ro1 pg1 r1 s1 i hmu_67 h_67_0 h_67_1
            refine v_aload_n (pc := 67) 1 dX5_text_67 rfl rfl ?_
            refine gf_801 (pc := 68) 0 dX5_text_68 rfl rfl ?_
            refine v_if_ne (pc := 71) 91 dX5_text_71 (by decide) (fun c_71 => ?_) (fun c_71 => ?_)
            · skip
              refine v_aload_n (pc := 91) 1 dX5_text_91 rfl rfl ?_
              refine gf_801 (pc := 92) 0 dX5_text_92 rfl rfl ?_
              refine v_if_ne (pc := 95) 115 dX5_text_95 (by decide) (fun c_95 => ?_) (fun c_95 => ?_)
              · skip
                refine v_aload_n (pc := 115) 1 dX5_text_115 rfl rfl ?_
                refine gf_801 (pc := 116) 0 dX5_text_116 rfl rfl ?_
                refine v_if_ne (pc := 119) 139 dX5_text_119 (by decide) (fun c_119 => ?_) (fun c_119 => ?_)
                · skip
                  refine v_aload_n (pc := 139) 1 dX5_text_139 rfl rfl ?_
                  refine v_iconst (pc := 140) (v := 0) dX5_text_140 (by decide) ?_
                  refine pf_799 (pc := 141) (ws' := [(m0, .inr (5, [.ref ma, .int (nI nt), .int (nI pp), .int (th), .ref mp, .int (rn1), .int (ro1), .int (to1), .int (wt1), .int (hn1), .int (ho1), .ref mt, .int (0), .int (fa), .int (bk1), .int (ba1), .int (nI sq1), .int (nI he1), .int (tok1), .int (val1), .ref mc, .ref ml, .ref mn, .int (nI se), .ref mk, .ref mg, .ref mh, .ref mq, .int (tn)])), (mt, .inl (E.2.1 1, 160, .inl (by_))), (mp, .inl (E.2.1 1, 43, .inl (pg1))), (mc, .inl (E.2.1 1, 9, .inl (cf))), (ml, .inl (E.2.1 1, 35, .inl (lf))), (ma, .inl (E.2.1 1, 172, .inl (f))), (mk, .inl (E.2.1 3, 2, .inl (kp)))]) 0 dX5_text_141 rfl rfl rfl (Nat.le_of_ble_eq_true rfl) rfl ?_
                  refine v_aload_n (pc := 144) 1 dX5_text_144 rfl rfl ?_
                  refine v_aload_n (pc := 145) 1 dX5_text_145 rfl rfl ?_
                  refine gf_801 (pc := 146) 0 dX5_text_146 rfl rfl ?_
                  refine pf_800 (pc := 149) (ws' := [(m0, .inr (5, [.ref ma, .int (nI nt), .int (nI pp), .int (th), .ref mp, .int (rn1), .int (ro1), .int (to1), .int (wt1), .int (hn1), .int (ho1), .ref mt, .int (0), .int (bk1), .int (bk1), .int (ba1), .int (nI sq1), .int (nI he1), .int (tok1), .int (val1), .ref mc, .ref ml, .ref mn, .int (nI se), .ref mk, .ref mg, .ref mh, .ref mq, .int (tn)])), (mt, .inl (E.2.1 1, 160, .inl (by_))), (mp, .inl (E.2.1 1, 43, .inl (pg1))), (mc, .inl (E.2.1 1, 9, .inl (cf))), (ml, .inl (E.2.1 1, 35, .inl (lf))), (ma, .inl (E.2.1 1, 172, .inl (f))), (mk, .inl (E.2.1 3, 2, .inl (kp)))]) 0 dX5_text_149 rfl rfl rfl (Nat.le_of_ble_eq_true rfl) rfl ?_
                  refine v_aload_n (pc := 152) 1 dX5_text_152 rfl rfl ?_
                  refine gf_801 (pc := 153) 0 dX5_text_153 rfl rfl ?_
                  refine v_if_le (pc := 156) 167 dX5_text_156 (by decide) (fun c_156 => ?_) (fun c_156 => ?_)
                  · skip
                    obtain ⟨e2, e3⟩ := TI_bad h_67_1 h_67_0 c_71
                    exact absurd (e2.symm.trans h_f) c_71
                  · skip
                    obtain ⟨e2, e3⟩ := TI_bad h_67_1 h_67_0 c_71
                    exact absurd (e2.symm.trans h_f) c_71
                · skip
                  exact absurd c_119 c_71
              · skip
                exact absurd c_95 c_71
            · skip
              refine v_aload_n (pc := 74) 1 dX5_text_74 rfl rfl ?_
              refine gf_805 (pc := 75) 0 dX5_text_75 rfl rfl ?_
              refine v_if_eq (pc := 78) 91 dX5_text_78 (by decide) (fun c_78 => ?_) (fun c_78 => ?_)
              · skip
                refine v_aload_n (pc := 91) 1 dX5_text_91 rfl rfl ?_
                refine gf_801 (pc := 92) 0 dX5_text_92 rfl rfl ?_
                refine v_if_ne (pc := 95) 115 dX5_text_95 (by decide) (fun c_95 => ?_) (fun c_95 => ?_)
                · skip
                  exact absurd c_71 c_95
                · skip
                  refine v_aload_n (pc := 98) 1 dX5_text_98 rfl rfl ?_
                  refine gf_796 (pc := 99) 0 dX5_text_99 rfl rfl ?_
                  refine v_aload_n (pc := 102) 1 dX5_text_102 rfl rfl ?_
                  refine gf_792 (pc := 103) 0 dX5_text_103 rfl rfl ?_
                  refine v_icmp_lt (pc := 106) 115 dX5_text_106 (by decide) (fun c_106 => ?_) (fun c_106 => ?_)
                  · skip
                    refine v_aload_n (pc := 115) 1 dX5_text_115 rfl rfl ?_
                    refine gf_801 (pc := 116) 0 dX5_text_116 rfl rfl ?_
                    refine v_if_ne (pc := 119) 139 dX5_text_119 (by decide) (fun c_119 => ?_) (fun c_119 => ?_)
                    · skip
                      exact absurd c_71 c_119
                    · skip
                      refine v_aload_n (pc := 122) 1 dX5_text_122 rfl rfl ?_
                      refine gf_797 (pc := 123) 0 dX5_text_123 rfl rfl ?_
                      refine v_aload_n (pc := 126) 1 dX5_text_126 rfl rfl ?_
                      refine gf_793 (pc := 127) 0 dX5_text_127 rfl rfl ?_
                      refine v_icmp_lt (pc := 130) 139 dX5_text_130 (by decide) (fun c_130 => ?_) (fun c_130 => ?_)
                      · skip
                        refine v_aload_n (pc := 139) 1 dX5_text_139 rfl rfl ?_
                        refine v_iconst (pc := 140) (v := 0) dX5_text_140 (by decide) ?_
                        refine pf_799 (pc := 141) (ws' := [(m0, .inr (5, [.ref ma, .int (nI nt), .int (nI pp), .int (th), .ref mp, .int (rn1), .int (ro1), .int (to1), .int (wt1), .int (hn1), .int (ho1), .ref mt, .int (0), .int (fa), .int (bk1), .int (ba1), .int (nI sq1), .int (nI he1), .int (tok1), .int (val1), .ref mc, .ref ml, .ref mn, .int (nI se), .ref mk, .ref mg, .ref mh, .ref mq, .int (tn)])), (mt, .inl (E.2.1 1, 160, .inl (by_))), (mp, .inl (E.2.1 1, 43, .inl (pg1))), (mc, .inl (E.2.1 1, 9, .inl (cf))), (ml, .inl (E.2.1 1, 35, .inl (lf))), (ma, .inl (E.2.1 1, 172, .inl (f))), (mk, .inl (E.2.1 3, 2, .inl (kp)))]) 0 dX5_text_141 rfl rfl rfl (Nat.le_of_ble_eq_true rfl) rfl ?_
                        refine v_aload_n (pc := 144) 1 dX5_text_144 rfl rfl ?_
                        refine v_aload_n (pc := 145) 1 dX5_text_145 rfl rfl ?_
                        refine gf_801 (pc := 146) 0 dX5_text_146 rfl rfl ?_
                        refine pf_800 (pc := 149) (ws' := [(m0, .inr (5, [.ref ma, .int (nI nt), .int (nI pp), .int (th), .ref mp, .int (rn1), .int (ro1), .int (to1), .int (wt1), .int (hn1), .int (ho1), .ref mt, .int (0), .int (bk1), .int (bk1), .int (ba1), .int (nI sq1), .int (nI he1), .int (tok1), .int (val1), .ref mc, .ref ml, .ref mn, .int (nI se), .ref mk, .ref mg, .ref mh, .ref mq, .int (tn)])), (mt, .inl (E.2.1 1, 160, .inl (by_))), (mp, .inl (E.2.1 1, 43, .inl (pg1))), (mc, .inl (E.2.1 1, 9, .inl (cf))), (ml, .inl (E.2.1 1, 35, .inl (lf))), (ma, .inl (E.2.1 1, 172, .inl (f))), (mk, .inl (E.2.1 3, 2, .inl (kp)))]) 0 dX5_text_149 rfl rfl rfl (Nat.le_of_ble_eq_true rfl) rfl ?_
                        refine v_aload_n (pc := 152) 1 dX5_text_152 rfl rfl ?_
                        refine gf_801 (pc := 153) 0 dX5_text_153 rfl rfl ?_
                        refine v_if_le (pc := 156) 167 dX5_text_156 (by decide) (fun c_156 => ?_) (fun c_156 => ?_)
                        · skip
                          refine v_iconst (pc := 167) (v := 0) dX5_text_167 (by decide) ?_
                          refine v_istore_n (pc := 168) (lv' := [(2, .int (0)), (1, .int (nI i)), (0, .ref m0)]) dX5_text_168 rfl (by decide) rfl ?_
                          have loop_169 : ∀ (D_169 : Nat) (k : Nat) (fk : Nat → Int32), 43 - k < D_169 → (∀ j, fk j = if j < k then pg1 j else f j) → (k ≤ 43) → V l E RX5 cX5_text 3 (Option.some FieldType.int) "text" ({ frames := 7, cells := 0, slots := 0, locals := 156 }) [(m0, .inr (5, [.ref ma, .int (nI nt), .int (nI pp), .int (th), .ref mp, .int (rn), .int (ro), .int (to), .int (wt), .int (hn), .int (ho), .ref mt, .int (nI tl), .int (fa), .int (bk), .int (ba), .int (nI sq), .int (nI he), .int (tok), .int (val), .ref mc, .ref ml, .ref mn, .int (nI se), .ref mk, .ref mg, .ref mh, .ref mq, .int (tn)])), (mt, .inl (E.2.1 1, 160, .inl (by_))), (mp, .inl (E.2.1 1, 43, .inl (pg))), (mc, .inl (E.2.1 1, 9, .inl (cf))), (ml, .inl (E.2.1 1, 35, .inl (lf))), (ma, .inl (E.2.1 1, 172, .inl (f))), (mk, .inl (E.2.1 3, 2, .inl (kp)))] 0 0 (fun v wd => ∃ (bk_ : Int32) (ba_ : Int32) (sp_ : Nat) (he_ : Nat) (to_ : Int32) (va_ : Int32) (wt_ : Int32) (hn_ : Int32) (ho_ : Int32) (rn_ : Int32) (ro_ : Int32) (tc_ : Int32) (pg_ : Nat → Int32) (fa_ : Int32) (f_ : Nat → Int32), v = some (.int (nI (lnAll by_ tl (tl + 1) 0 (PS.mk 0 0 0 0 0 0 0 0 3 2 on3 wr3 nd3 br3 (fillI wo3 0 6)) 0).2.2)) ∧ wd = [(m0, .inr (5, [.ref ma, .int (rn_), .int (ro_), .int (th), .ref mp, .int (rn_), .int (ro_), .int (tc_), .int (wt_), .int (hn_), .int (ho_), .ref mt, .int (0), .int (fa_), .int (bk_), .int (ba_), .int (nI sp_), .int (nI he_), .int (to_), .int (va_), .ref mc, .ref ml, .ref mn, .int (0), .ref mk, .ref mg, .ref mh, .ref mq, .int (tn)])), (mt, .inl (E.2.1 1, 160, .inl (by_))), (mp, .inl (E.2.1 1, 43, .inl (pg_))), (mc, .inl (E.2.1 1, 9, .inl (cf))), (ml, .inl (E.2.1 1, 35, .inl (lf))), (ma, .inl (E.2.1 1, 172, .inl (f_))), (mk, .inl (E.2.1 3, 2, .inl (upd (upd kp 0 (vp_nar .boolean 0)) 1 (vp_nar .boolean 0))))] ∧ (fa_ = 0) ∧ (rn_ = nI (lnAll by_ tl (tl + 1) 0 (PS.mk 0 0 0 0 0 0 0 0 3 2 on3 wr3 nd3 br3 (fillI wo3 0 6)) 0).2.1.kn) ∧ (ro_ = nI (lnAll by_ tl (tl + 1) 0 (PS.mk 0 0 0 0 0 0 0 0 3 2 on3 wr3 nd3 br3 (fillI wo3 0 6)) 0).2.1.kp) ∧ (GS (lnAll by_ tl (tl + 1) 0 (PS.mk 0 0 0 0 0 0 0 0 3 2 on3 wr3 nd3 br3 (fillI wo3 0 6)) 0).2.1) ∧ (PG (lnAll by_ tl (tl + 1) 0 (PS.mk 0 0 0 0 0 0 0 0 3 2 on3 wr3 nd3 br3 (fillI wo3 0 6)) 0).2.1 pg_) ∧ (∀ j, f_ j = if j < 43 then pg_ j else f j)) 0 0 169 [(2, .int (nI k)), (1, .int (nI i)), (0, .ref m0)] [] [(m0, .inr (5, [.ref ma, .int (nI nt), .int (nI pp), .int (th), .ref mp, .int (rn1), .int (ro1), .int (to1), .int (wt1), .int (hn1), .int (ho1), .ref mt, .int (0), .int (bk1), .int (bk1), .int (ba1), .int (nI sq1), .int (nI he1), .int (tok1), .int (val1), .ref mc, .ref ml, .ref mn, .int (nI se), .ref mk, .ref mg, .ref mh, .ref mq, .int (tn)])), (mt, .inl (E.2.1 1, 160, .inl (by_))), (mp, .inl (E.2.1 1, 43, .inl (pg1))), (mc, .inl (E.2.1 1, 9, .inl (cf))), (ml, .inl (E.2.1 1, 35, .inl (lf))), (ma, .inl (E.2.1 1, 172, .inl (fk))), (mk, .inl (E.2.1 3, 2, .inl (kp)))] := by
                            intro D_169
                            induction D_169 with
                            | zero => intro k fk h; exact absurd h (Nat.not_lt_zero _)
                            | succ D_169 ih_169 =>
                              intro k fk hmu_169 h_169_0 h_169_1
                              refine v_iload_n (pc := 169) 0 dX5_text_169 rfl rfl ?_
                              refine v_bipush (pc := 170) (v := 43) dX5_text_170 (by decide) ?_
                              refine v_cmpN_ge (pc := 172) (a := k) (b := 43) 193 dX5_text_172 (by decide) (by omega) (by omega) (fun c_172 => ?_) (fun c_172 => ?_)
                              · skip
                                refine v_aload_n (pc := 193) 2 dX5_text_193 rfl rfl ?_
                                refine v_aload_n (pc := 194) 2 dX5_text_194 rfl rfl ?_
                                refine gf_792 (pc := 195) 0 dX5_text_195 rfl rfl ?_
                                refine pf_788 (pc := 198) (ws' := [(m0, .inr (5, [.ref ma, .int (rn1), .int (nI pp), .int (th), .ref mp, .int (rn1), .int (ro1), .int (to1), .int (wt1), .int (hn1), .int (ho1), .ref mt, .int (0), .int (bk1), .int (bk1), .int (ba1), .int (nI sq1), .int (nI he1), .int (tok1), .int (val1), .ref mc, .ref ml, .ref mn, .int (nI se), .ref mk, .ref mg, .ref mh, .ref mq, .int (tn)])), (mt, .inl (E.2.1 1, 160, .inl (by_))), (mp, .inl (E.2.1 1, 43, .inl (pg1))), (mc, .inl (E.2.1 1, 9, .inl (cf))), (ml, .inl (E.2.1 1, 35, .inl (lf))), (ma, .inl (E.2.1 1, 172, .inl (fk))), (mk, .inl (E.2.1 3, 2, .inl (kp)))]) 0 dX5_text_198 rfl rfl rfl (Nat.le_of_ble_eq_true rfl) rfl ?_
                                refine v_aload_n (pc := 201) 2 dX5_text_201 rfl rfl ?_
                                refine v_aload_n (pc := 202) 2 dX5_text_202 rfl rfl ?_
                                refine gf_793 (pc := 203) 0 dX5_text_203 rfl rfl ?_
                                refine pf_789 (pc := 206) (ws' := [(m0, .inr (5, [.ref ma, .int (rn1), .int (ro1), .int (th), .ref mp, .int (rn1), .int (ro1), .int (to1), .int (wt1), .int (hn1), .int (ho1), .ref mt, .int (0), .int (bk1), .int (bk1), .int (ba1), .int (nI sq1), .int (nI he1), .int (tok1), .int (val1), .ref mc, .ref ml, .ref mn, .int (nI se), .ref mk, .ref mg, .ref mh, .ref mq, .int (tn)])), (mt, .inl (E.2.1 1, 160, .inl (by_))), (mp, .inl (E.2.1 1, 43, .inl (pg1))), (mc, .inl (E.2.1 1, 9, .inl (cf))), (ml, .inl (E.2.1 1, 35, .inl (lf))), (ma, .inl (E.2.1 1, 172, .inl (fk))), (mk, .inl (E.2.1 3, 2, .inl (kp)))]) 0 dX5_text_206 rfl rfl rfl (Nat.le_of_ble_eq_true rfl) rfl ?_
                                refine v_aload_n (pc := 209) 2 dX5_text_209 rfl rfl ?_
                                refine v_iconst (pc := 210) (v := 0) dX5_text_210 (by decide) ?_
                                refine pf_810 (pc := 211) (ws' := [(m0, .inr (5, [.ref ma, .int (rn1), .int (ro1), .int (th), .ref mp, .int (rn1), .int (ro1), .int (to1), .int (wt1), .int (hn1), .int (ho1), .ref mt, .int (0), .int (bk1), .int (bk1), .int (ba1), .int (nI sq1), .int (nI he1), .int (tok1), .int (val1), .ref mc, .ref ml, .ref mn, .int (0), .ref mk, .ref mg, .ref mh, .ref mq, .int (tn)])), (mt, .inl (E.2.1 1, 160, .inl (by_))), (mp, .inl (E.2.1 1, 43, .inl (pg1))), (mc, .inl (E.2.1 1, 9, .inl (cf))), (ml, .inl (E.2.1 1, 35, .inl (lf))), (ma, .inl (E.2.1 1, 172, .inl (fk))), (mk, .inl (E.2.1 3, 2, .inl (kp)))]) 0 dX5_text_211 rfl rfl rfl (Nat.le_of_ble_eq_true rfl) rfl ?_
                                refine v_aload_n (pc := 214) 2 dX5_text_214 rfl rfl ?_
                                refine gf_811 (pc := 215) 0 dX5_text_215 rfl rfl ?_
                                refine v_iconst (pc := 218) (v := 0) dX5_text_218 (by decide) ?_
                                refine v_iconst (pc := 219) (v := 0) dX5_text_219 (by decide) ?_
                                refine v_zastN (pc := 220) (ws' := [(m0, .inr (5, [.ref ma, .int (rn1), .int (ro1), .int (th), .ref mp, .int (rn1), .int (ro1), .int (to1), .int (wt1), .int (hn1), .int (ho1), .ref mt, .int (0), .int (bk1), .int (bk1), .int (ba1), .int (nI sq1), .int (nI he1), .int (tok1), .int (val1), .ref mc, .ref ml, .ref mn, .int (0), .ref mk, .ref mg, .ref mh, .ref mq, .int (tn)])), (mt, .inl (E.2.1 1, 160, .inl (by_))), (mp, .inl (E.2.1 1, 43, .inl (pg1))), (mc, .inl (E.2.1 1, 9, .inl (cf))), (ml, .inl (E.2.1 1, 35, .inl (lf))), (ma, .inl (E.2.1 1, 172, .inl (fk))), (mk, .inl (E.2.1 3, 2, .inl (upd (kp) (0) (vp_nar .boolean (0)))))]) 6 3 (0) dX5_text_220 rfl rfl rfl (by decide) (by decide) rfl ?_
                                refine v_aload_n (pc := 221) 2 dX5_text_221 rfl rfl ?_
                                refine gf_811 (pc := 222) 0 dX5_text_222 rfl rfl ?_
                                refine v_iconst (pc := 225) (v := 1) dX5_text_225 (by decide) ?_
                                refine v_iconst (pc := 226) (v := 0) dX5_text_226 (by decide) ?_
                                refine v_zastN (pc := 227) (ws' := [(m0, .inr (5, [.ref ma, .int (rn1), .int (ro1), .int (th), .ref mp, .int (rn1), .int (ro1), .int (to1), .int (wt1), .int (hn1), .int (ho1), .ref mt, .int (0), .int (bk1), .int (bk1), .int (ba1), .int (nI sq1), .int (nI he1), .int (tok1), .int (val1), .ref mc, .ref ml, .ref mn, .int (0), .ref mk, .ref mg, .ref mh, .ref mq, .int (tn)])), (mt, .inl (E.2.1 1, 160, .inl (by_))), (mp, .inl (E.2.1 1, 43, .inl (pg1))), (mc, .inl (E.2.1 1, 9, .inl (cf))), (ml, .inl (E.2.1 1, 35, .inl (lf))), (ma, .inl (E.2.1 1, 172, .inl (fk))), (mk, .inl (E.2.1 3, 2, .inl (upd (upd (kp) (0) (vp_nar .boolean (0))) (1) (vp_nar .boolean (0)))))]) 6 3 (1) dX5_text_227 rfl rfl rfl (by decide) (by decide) rfl ?_
                                refine v_iload_n (pc := 228) 1 dX5_text_228 rfl rfl ?_
                                refine v_iret (pc := 229) dX5_text_229 rfl ⟨rfl, rfl⟩ ⟨(bk1), (ba1), (sq1), (he1), (tok1), (val1), (wt1), (hn1), (ho1), (rn1), (ro1), (to1), (pg1), (bk1), (fk), ?_, rfl, ?_, ?_, ?_, ?_, ?_, ?_⟩
                                · skip
                                  obtain ⟨e1, e2, e3, e4, e5, e6⟩ := TI_end h_67_1 h_67_0 c_71 c_78
                                  rw [if_pos c_106, if_pos c_130] at e2
                                  rw [e1]
                                · skip
                                  obtain ⟨e1, e2, e3, e4, e5, e6⟩ := TI_end h_67_1 h_67_0 c_71 c_78
                                  rw [if_pos c_106, if_pos c_130] at e2
                                  exact c_71
                                · skip
                                  obtain ⟨e1, e2, e3, e4, e5, e6⟩ := TI_end h_67_1 h_67_0 c_71 c_78
                                  rw [if_pos c_106, if_pos c_130] at e2
                                  rw [e1]; exact e6.2.2.2.1
                                · skip
                                  obtain ⟨e1, e2, e3, e4, e5, e6⟩ := TI_end h_67_1 h_67_0 c_71 c_78
                                  rw [if_pos c_106, if_pos c_130] at e2
                                  rw [e1]; exact e6.2.2.2.2.1
                                · skip
                                  obtain ⟨e1, e2, e3, e4, e5, e6⟩ := TI_end h_67_1 h_67_0 c_71 c_78
                                  rw [if_pos c_106, if_pos c_130] at e2
                                  rw [e1]; exact e5
                                · skip
                                  obtain ⟨e1, e2, e3, e4, e5, e6⟩ := TI_end h_67_1 h_67_0 c_71 c_78
                                  rw [if_pos c_106, if_pos c_130] at e2
                                  rw [e1]; exact e6.2.2.2.2.2
                                · skip
                                  intro j; have := h_169_0 j; rw [this]; by_cases z : j < k
                                  · rw [if_pos z, if_pos (by omega)]
                                  · rw [if_neg z, if_neg (by omega)]
                              · skip
                                refine v_aload_n (pc := 175) 2 dX5_text_175 rfl rfl ?_
                                refine gf_787 (pc := 176) 0 dX5_text_176 rfl rfl ?_
                                refine v_iload_n (pc := 179) 0 dX5_text_179 rfl rfl ?_
                                refine v_aload_n (pc := 180) 2 dX5_text_180 rfl rfl ?_
                                refine gf_791 (pc := 181) 0 dX5_text_181 rfl rfl ?_
                                refine v_iload_n (pc := 184) 0 dX5_text_184 rfl rfl ?_
                                refine v_ialdN (pc := 185) 2 1 (k) dX5_text_185 rfl rfl rfl (by omega) (by decide) ?_
                                refine v_iastN (pc := 186) (ws' := [(m0, .inr (5, [.ref ma, .int (nI nt), .int (nI pp), .int (th), .ref mp, .int (rn1), .int (ro1), .int (to1), .int (wt1), .int (hn1), .int (ho1), .ref mt, .int (0), .int (bk1), .int (bk1), .int (ba1), .int (nI sq1), .int (nI he1), .int (tok1), .int (val1), .ref mc, .ref ml, .ref mn, .int (nI se), .ref mk, .ref mg, .ref mh, .ref mq, .int (tn)])), (mt, .inl (E.2.1 1, 160, .inl (by_))), (mp, .inl (E.2.1 1, 43, .inl (pg1))), (mc, .inl (E.2.1 1, 9, .inl (cf))), (ml, .inl (E.2.1 1, 35, .inl (lf))), (ma, .inl (E.2.1 1, 172, .inl (upd (fk) (k) (pg1 k)))), (mk, .inl (E.2.1 3, 2, .inl (kp)))]) 5 1 (k) dX5_text_186 rfl rfl rfl (by omega) (by decide) rfl ?_
                                refine v_iinc (pc := 187) (v := nI (k + 1)) (lv' := [(2, .int (nI (k + 1))), (1, .int (nI i)), (0, .ref m0)]) 0 dX5_text_187 rfl (nI_inc (k) 1) (by decide) rfl ?_
                                refine v_goto (pc := 190) 169 dX5_text_190 (by decide) ?_
                                refine v_lv (lv' := [(2, .int (nI (k + 1))), (1, .int (nI i)), (0, .ref m0)]) [0, 1, 2] rfl ?_
                                refine ih_169 (k + 1) (upd (fk) (k) (pg1 k)) (by omega) ?_ ?_
                                · intro j; simp only [upd]; split
                                  · rename_i e; rw [if_pos (by omega), e]
                                  · rename_i e; rw [h_169_0 j]; by_cases z : j < k
                                    · rw [if_pos z, if_pos (by omega)]
                                    · rw [if_neg z, if_neg (by omega)]
                                · omega
                          refine v_lv (lv' := [(2, .int (nI 0)), (1, .int (nI i)), (0, .ref m0)]) [0, 1, 2] rfl ?_
                          refine loop_169 ((43 - 0) + 1) 0 f (Nat.lt_succ_self _) ?_ ?_
                          · intro j; rw [if_neg (Nat.not_lt_zero _)]
                          · omega
                        · skip
                          obtain ⟨e1, e2, e3, e4, e5, e6⟩ := TI_end h_67_1 h_67_0 c_71 c_78
                          rw [if_pos c_106, if_pos c_130] at e2
                          exact absurd (by rw [c_71]; decide) c_156
                      · skip
                        refine v_aload_n (pc := 133) 1 dX5_text_133 rfl rfl ?_
                        refine v_bipush (pc := 134) (v := 7) dX5_text_134 (by decide) ?_
                        refine v_callV (pc := 136) (rest := []) [0] 0 lk_903 (c_X5_fails l E m0 ma mp mt mc ml mn mk mg mh mq nt pp tl se th rn1 ro1 to1 wt1 hn1 ho1 fa bk1 ba1 (nI sq1) (nI he1) tok1 val1 tn 7) dX5_text_136 rfl rfl (Nat.le_of_ble_eq_true rfl) (by decide) rfl rfl rfl (by decide) rfl (Rt.len rfl) (Rt.go ?_)
                        refine v_w (ws' := [(m0, .inr (5, [.ref ma, .int (nI nt), .int (nI pp), .int (th), .ref mp, .int (rn1), .int (ro1), .int (to1), .int (wt1), .int (hn1), .int (ho1), .ref mt, .int (nI tl), .int (fa), .int (if bk1 = 0 then 7 else bk1), .int (if bk1 = 0 then (nI he1) else ba1), .int ((nI sq1)), .int ((nI he1)), .int (tok1), .int (val1), .ref mc, .ref ml, .ref mn, .int (nI se), .ref mk, .ref mg, .ref mh, .ref mq, .int (tn)])), (mt, .inl (E.2.1 1, 160, .inl (by_))), (mp, .inl (E.2.1 1, 43, .inl (pg1))), (mc, .inl (E.2.1 1, 9, .inl (cf))), (ml, .inl (E.2.1 1, 35, .inl (lf))), (ma, .inl (E.2.1 1, 172, .inl (f))), (mk, .inl (E.2.1 3, 2, .inl (kp)))]) rfl ?_
                        refine v_st (st' := []) rfl ?_
                        refine v_w (ws' := [(m0, .inr (5, [.ref ma, .int (nI nt), .int (nI pp), .int (th), .ref mp, .int (rn1), .int (ro1), .int (to1), .int (wt1), .int (hn1), .int (ho1), .ref mt, .int (nI tl), .int (fa), .int (7), .int (nI he1), .int ((nI sq1)), .int ((nI he1)), .int (tok1), .int (val1), .ref mc, .ref ml, .ref mn, .int (nI se), .ref mk, .ref mg, .ref mh, .ref mq, .int (tn)])), (mt, .inl (E.2.1 1, 160, .inl (by_))), (mp, .inl (E.2.1 1, 43, .inl (pg1))), (mc, .inl (E.2.1 1, 9, .inl (cf))), (ml, .inl (E.2.1 1, 35, .inl (lf))), (ma, .inl (E.2.1 1, 172, .inl (f))), (mk, .inl (E.2.1 3, 2, .inl (kp)))]) (by rw [if_pos c_71, if_pos c_71]) ?_
                        refine v_aload_n (pc := 139) 1 dX5_text_139 rfl rfl ?_
                        refine v_iconst (pc := 140) (v := 0) dX5_text_140 (by decide) ?_
                        refine pf_799 (pc := 141) (ws' := [(m0, .inr (5, [.ref ma, .int (nI nt), .int (nI pp), .int (th), .ref mp, .int (rn1), .int (ro1), .int (to1), .int (wt1), .int (hn1), .int (ho1), .ref mt, .int (0), .int (fa), .int (7), .int (nI he1), .int ((nI sq1)), .int ((nI he1)), .int (tok1), .int (val1), .ref mc, .ref ml, .ref mn, .int (nI se), .ref mk, .ref mg, .ref mh, .ref mq, .int (tn)])), (mt, .inl (E.2.1 1, 160, .inl (by_))), (mp, .inl (E.2.1 1, 43, .inl (pg1))), (mc, .inl (E.2.1 1, 9, .inl (cf))), (ml, .inl (E.2.1 1, 35, .inl (lf))), (ma, .inl (E.2.1 1, 172, .inl (f))), (mk, .inl (E.2.1 3, 2, .inl (kp)))]) 0 dX5_text_141 rfl rfl rfl (Nat.le_of_ble_eq_true rfl) rfl ?_
                        refine v_aload_n (pc := 144) 1 dX5_text_144 rfl rfl ?_
                        refine v_aload_n (pc := 145) 1 dX5_text_145 rfl rfl ?_
                        refine gf_801 (pc := 146) 0 dX5_text_146 rfl rfl ?_
                        refine pf_800 (pc := 149) (ws' := [(m0, .inr (5, [.ref ma, .int (nI nt), .int (nI pp), .int (th), .ref mp, .int (rn1), .int (ro1), .int (to1), .int (wt1), .int (hn1), .int (ho1), .ref mt, .int (0), .int (7), .int (7), .int (nI he1), .int ((nI sq1)), .int ((nI he1)), .int (tok1), .int (val1), .ref mc, .ref ml, .ref mn, .int (nI se), .ref mk, .ref mg, .ref mh, .ref mq, .int (tn)])), (mt, .inl (E.2.1 1, 160, .inl (by_))), (mp, .inl (E.2.1 1, 43, .inl (pg1))), (mc, .inl (E.2.1 1, 9, .inl (cf))), (ml, .inl (E.2.1 1, 35, .inl (lf))), (ma, .inl (E.2.1 1, 172, .inl (f))), (mk, .inl (E.2.1 3, 2, .inl (kp)))]) 0 dX5_text_149 rfl rfl rfl (Nat.le_of_ble_eq_true rfl) rfl ?_
                        refine v_aload_n (pc := 152) 1 dX5_text_152 rfl rfl ?_
                        refine gf_801 (pc := 153) 0 dX5_text_153 rfl rfl ?_
                        refine v_if_le (pc := 156) 167 dX5_text_156 (by decide) (fun c => absurd c (by decide)) (fun _ => ?_)
                        obtain ⟨e1, e2, e3, e4, e5, e6⟩ := TI_end h_67_1 h_67_0 c_71 c_78
                        rw [if_pos c_106, if_neg c_130] at e2
                        exact absurd (e2.symm.trans h_f) (by decide)
                  · skip
                    refine v_aload_n (pc := 109) 1 dX5_text_109 rfl rfl ?_
                    refine v_bipush (pc := 110) (v := 6) dX5_text_110 (by decide) ?_
                    refine v_callV (pc := 112) (rest := []) [0] 0 lk_903 (c_X5_fails l E m0 ma mp mt mc ml mn mk mg mh mq nt pp tl se th rn1 ro1 to1 wt1 hn1 ho1 fa bk1 ba1 (nI sq1) (nI he1) tok1 val1 tn 6) dX5_text_112 rfl rfl (Nat.le_of_ble_eq_true rfl) (by decide) rfl rfl rfl (by decide) rfl (Rt.len rfl) (Rt.go ?_)
                    refine v_w (ws' := [(m0, .inr (5, [.ref ma, .int (nI nt), .int (nI pp), .int (th), .ref mp, .int (rn1), .int (ro1), .int (to1), .int (wt1), .int (hn1), .int (ho1), .ref mt, .int (nI tl), .int (fa), .int (if bk1 = 0 then 6 else bk1), .int (if bk1 = 0 then (nI he1) else ba1), .int ((nI sq1)), .int ((nI he1)), .int (tok1), .int (val1), .ref mc, .ref ml, .ref mn, .int (nI se), .ref mk, .ref mg, .ref mh, .ref mq, .int (tn)])), (mt, .inl (E.2.1 1, 160, .inl (by_))), (mp, .inl (E.2.1 1, 43, .inl (pg1))), (mc, .inl (E.2.1 1, 9, .inl (cf))), (ml, .inl (E.2.1 1, 35, .inl (lf))), (ma, .inl (E.2.1 1, 172, .inl (f))), (mk, .inl (E.2.1 3, 2, .inl (kp)))]) rfl ?_
                    refine v_st (st' := []) rfl ?_
                    refine v_w (ws' := [(m0, .inr (5, [.ref ma, .int (nI nt), .int (nI pp), .int (th), .ref mp, .int (rn1), .int (ro1), .int (to1), .int (wt1), .int (hn1), .int (ho1), .ref mt, .int (nI tl), .int (fa), .int (6), .int (nI he1), .int ((nI sq1)), .int ((nI he1)), .int (tok1), .int (val1), .ref mc, .ref ml, .ref mn, .int (nI se), .ref mk, .ref mg, .ref mh, .ref mq, .int (tn)])), (mt, .inl (E.2.1 1, 160, .inl (by_))), (mp, .inl (E.2.1 1, 43, .inl (pg1))), (mc, .inl (E.2.1 1, 9, .inl (cf))), (ml, .inl (E.2.1 1, 35, .inl (lf))), (ma, .inl (E.2.1 1, 172, .inl (f))), (mk, .inl (E.2.1 3, 2, .inl (kp)))]) (by rw [if_pos c_71, if_pos c_71]) ?_
                    refine v_aload_n (pc := 115) 1 dX5_text_115 rfl rfl ?_
                    refine gf_801 (pc := 116) 0 dX5_text_116 rfl rfl ?_
                    refine v_if_ne (pc := 119) 139 dX5_text_119 (by decide) (fun _ => ?_) (fun c => absurd c (by decide))
                    refine v_aload_n (pc := 139) 1 dX5_text_139 rfl rfl ?_
                    refine v_iconst (pc := 140) (v := 0) dX5_text_140 (by decide) ?_
                    refine pf_799 (pc := 141) (ws' := [(m0, .inr (5, [.ref ma, .int (nI nt), .int (nI pp), .int (th), .ref mp, .int (rn1), .int (ro1), .int (to1), .int (wt1), .int (hn1), .int (ho1), .ref mt, .int (0), .int (fa), .int (6), .int (nI he1), .int ((nI sq1)), .int ((nI he1)), .int (tok1), .int (val1), .ref mc, .ref ml, .ref mn, .int (nI se), .ref mk, .ref mg, .ref mh, .ref mq, .int (tn)])), (mt, .inl (E.2.1 1, 160, .inl (by_))), (mp, .inl (E.2.1 1, 43, .inl (pg1))), (mc, .inl (E.2.1 1, 9, .inl (cf))), (ml, .inl (E.2.1 1, 35, .inl (lf))), (ma, .inl (E.2.1 1, 172, .inl (f))), (mk, .inl (E.2.1 3, 2, .inl (kp)))]) 0 dX5_text_141 rfl rfl rfl (Nat.le_of_ble_eq_true rfl) rfl ?_
                    refine v_aload_n (pc := 144) 1 dX5_text_144 rfl rfl ?_
                    refine v_aload_n (pc := 145) 1 dX5_text_145 rfl rfl ?_
                    refine gf_801 (pc := 146) 0 dX5_text_146 rfl rfl ?_
                    refine pf_800 (pc := 149) (ws' := [(m0, .inr (5, [.ref ma, .int (nI nt), .int (nI pp), .int (th), .ref mp, .int (rn1), .int (ro1), .int (to1), .int (wt1), .int (hn1), .int (ho1), .ref mt, .int (0), .int (6), .int (6), .int (nI he1), .int ((nI sq1)), .int ((nI he1)), .int (tok1), .int (val1), .ref mc, .ref ml, .ref mn, .int (nI se), .ref mk, .ref mg, .ref mh, .ref mq, .int (tn)])), (mt, .inl (E.2.1 1, 160, .inl (by_))), (mp, .inl (E.2.1 1, 43, .inl (pg1))), (mc, .inl (E.2.1 1, 9, .inl (cf))), (ml, .inl (E.2.1 1, 35, .inl (lf))), (ma, .inl (E.2.1 1, 172, .inl (f))), (mk, .inl (E.2.1 3, 2, .inl (kp)))]) 0 dX5_text_149 rfl rfl rfl (Nat.le_of_ble_eq_true rfl) rfl ?_
                    refine v_aload_n (pc := 152) 1 dX5_text_152 rfl rfl ?_
                    refine gf_801 (pc := 153) 0 dX5_text_153 rfl rfl ?_
                    refine v_if_le (pc := 156) 167 dX5_text_156 (by decide) (fun c => absurd c (by decide)) (fun _ => ?_)
                    obtain ⟨e1, e2, e3, e4, e5, e6⟩ := TI_end h_67_1 h_67_0 c_71 c_78
                    rw [if_neg c_106] at e2
                    exact absurd (e2.symm.trans h_f) (by decide)
              · skip
                refine v_aload_n (pc := 81) 1 dX5_text_81 rfl rfl ?_
                refine v_callV (pc := 82) (rest := []) [0, 1, 2, 3, 4] 0 lk_907 (c_X5_readLine l E m0 ma mp mt mc ml mn mk mg mh mq nt pp tl se th rn1 ro1 to1 wt1 hn1 ho1 fa bk1 ba1 tok1 val1 tn sq1 he1 by_ s1 cf lf pg1 h_tl h_b c_71 h_67_0.1 h_67_0.2.1 (h_67_1.1 (h_67_0.at c_71).1).2.2.1 (h_67_1.1 (h_67_0.at c_71).1).2.2.2 (h_67_1.1 (h_67_0.at c_71).1).2.1 h_cf h_lf) dX5_text_82 rfl rfl (Nat.le_of_ble_eq_true rfl) (by decide) rfl rfl rfl (by decide) rfl (by rintro _ _ ⟨_, _, _, _, _, _, _, _, _, _, _, _, _, _, rfl, _⟩; rfl) ?_
                rintro _ _ ⟨bk_82, ba_82, sp_82, he_82, to_82, va_82, wt_82, hn_82, ho_82, rn_82, ro_82, pg_82, tc_82, rfl, rfl, hf82_0, hf82_1⟩
                refine v_w (ws' := [(m0, .inr (5, [.ref ma, .int (nI nt), .int (nI pp), .int (th), .ref mp, .int (rn_82), .int (ro_82), .int (tc_82), .int (wt_82), .int (hn_82), .int (ho_82), .ref mt, .int (nI tl), .int (fa), .int (bk_82), .int (ba_82), .int (nI sp_82), .int (nI he_82), .int (to_82), .int (va_82), .ref mc, .ref ml, .ref mn, .int (nI se), .ref mk, .ref mg, .ref mh, .ref mq, .int (tn)])), (mt, .inl (E.2.1 1, 160, .inl (by_))), (mp, .inl (E.2.1 1, 43, .inl (pg_82))), (mc, .inl (E.2.1 1, 9, .inl (cf))), (ml, .inl (E.2.1 1, 35, .inl (lf))), (ma, .inl (E.2.1 1, 172, .inl (f))), (mk, .inl (E.2.1 3, 2, .inl (kp)))]) rfl ?_
                refine v_st (st' := []) rfl ?_
                refine v_iinc (pc := 85) (v := nI (i + 1)) (lv' := [(1, .int (nI (i + 1))), (0, .ref m0)]) 0 dX5_text_85 rfl (nI_inc (i) 1) (by decide) rfl ?_
                refine v_goto (pc := 88) 67 dX5_text_88 (by decide) ?_
                refine v_lv (lv' := [(1, .int (nI (i + 1))), (0, .ref m0)]) [0, 1] rfl ?_
                refine ih_67 bk_82 ba_82 sp_82 he_82 to_82 va_82 tc_82 wt_82 hn_82 ho_82 rn_82 ro_82 pg_82 (lnC by_ tl tok1 he1 sq1 s1) (lnP by_ tl tok1 he1 sq1 s1) (i + 1) (by have := (TI_line h_67_1 h_67_0 c_71 c_78 hf82_1).2; omega) ?_ ?_
                · exact hf82_0
                · exact (TI_line h_67_1 h_67_0 c_71 c_78 hf82_1).1
        refine v_lv (lv' := [(1, .int (nI 0)), (0, .ref m0)]) [1, 2] rfl ?_
        refine loop_67 ((mes tl ((0, 0))) + 1) bk_64 ba_64 sp_64 he_64 to_64 va_64 0 0 (-1) (-1) 3 2 pgk (0, 0) (PS.mk 0 0 0 0 0 0 0 0 3 2 on3 wr3 nd3 br3 (fillI wo3 0 6)) 0 (Nat.lt_succ_self _) ?_ ?_
        · exact hf64_0
        · refine ⟨fun _ => ⟨rfl, GS_0, rfl, PR_0 (fun j hj => h_44_0 j (by omega))⟩, fun q => absurd rfl q⟩
      · skip
        refine v_aload_n (pc := 50) 2 dX5_text_50 rfl rfl ?_
        refine gf_791 (pc := 51) 0 dX5_text_51 rfl rfl ?_
        refine v_iload_n (pc := 54) 0 dX5_text_54 rfl rfl ?_
        refine v_iconst (pc := 55) (v := 0) dX5_text_55 (by decide) ?_
        refine v_iastN (pc := 56) (ws' := [(m0, .inr (5, [.ref ma, .int (nI nt), .int (nI pp), .int (th), .ref mp, .int (3), .int (2), .int (0), .int (0), .int (-1), .int (-1), .ref mt, .int (nI tl), .int (fa), .int (0), .int (ba), .int (0), .int (nI he), .int (tok), .int (val), .ref mc, .ref ml, .ref mn, .int (nI se), .ref mk, .ref mg, .ref mh, .ref mq, .int (tn)])), (mt, .inl (E.2.1 1, 160, .inl (by_))), (mp, .inl (E.2.1 1, 43, .inl (upd (pgk) (k) (0)))), (mc, .inl (E.2.1 1, 9, .inl (cf))), (ml, .inl (E.2.1 1, 35, .inl (lf))), (ma, .inl (E.2.1 1, 172, .inl (f))), (mk, .inl (E.2.1 3, 2, .inl (kp)))]) 2 1 (k) dX5_text_56 rfl rfl rfl (by omega) (by decide) rfl ?_
        refine v_iinc (pc := 57) (v := nI (k + 1)) (lv' := [(2, .int (nI (k + 1))), (1, .int (0)), (0, .ref m0)]) 0 dX5_text_57 rfl (nI_inc (k) 1) (by decide) rfl ?_
        refine v_goto (pc := 60) 44 dX5_text_60 (by decide) ?_
        refine v_lv (lv' := [(2, .int (nI (k + 1))), (1, .int (0)), (0, .ref m0)]) [0, 1, 2] rfl ?_
        refine ih_44 (k + 1) (upd (pgk) (k) (0)) (by omega) ?_ ?_
        · intro j hj; simp only [upd]; split; · rfl
          · exact h_44_0 j (by omega)
        · omega
  refine v_lv (lv' := [(2, .int (nI 0)), (1, .int (0)), (0, .ref m0)]) [0, 1, 2] rfl ?_
  refine loop_44 ((43 - 0) + 1) 0 pg (Nat.lt_succ_self _) ?_ ?_
  · intro j hj; omega
  · omega
