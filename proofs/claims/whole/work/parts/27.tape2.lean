/-! lines: (the FAULT's number, its place), or (0, where the next TOKEN is read) -/
section LN
variable (b : Nat → Int32) (n : Nat)
def ckT (p : Nat) (k : Int32 × Nat) : Int32 × Nat := if tkO b n p = true then k else (1, tkS b n p)
def nuC (p : Nat) (lo hi : Int32) : Int32 := numC (tkK b n p) (tkV b n p 0) lo hi
def ckN (p : Nat) (lo hi : Int32) (k : Int32 × Nat) : Int32 × Nat := ckT b n p (if nuC b n p lo hi = 0 then k else (nuC b n p lo hi, tkS b n p))
def ckA (p : Nat) (al : Int32) (k : Int32 × Nat) : Int32 × Nat := ckN b n p 0 5 (if bt1 al (tkV b n p 0) = 0 then k else (4, tkS b n p))
def ckC (p : Nat) : Int32 × Nat := ckT b n p (if tkK b n p = 3 then (0, tkN b n p) else (2, tkS b n p))
end LN
theorem tkV_0 {b : Nat → Int32} {n p : Nat} (v : Int32) (h : tkK b n p = 2) : tkV b n p v = tkV b n p 0 := by
  unfold tkK at h
  unfold tkV
  split at h
  · exact absurd h (by decide)
  · split at h
    · exact absurd h (by decide)
    · split at h
      · rename_i h1 h2 h3; rw [if_neg h1, if_neg h2, if_pos h3, if_neg h1, if_neg h2, if_pos h3]
      · exact absurd h (by decide)
theorem numC_v {b : Nat → Int32} {n p : Nat} (v lo hi : Int32) : numC (tkK b n p) (tkV b n p v) lo hi = nuC b n p lo hi := by
  unfold nuC
  by_cases h : tkK b n p = 2
  · rw [tkV_0 v h]
  · unfold numC; rw [if_neg h, if_neg h]
theorem nuC_ok {b : Nat → Int32} {n p : Nat} {lo hi : Int32} (h : nuC b n p lo hi = 0) : tkK b n p = 2 ∧ ¬ tkV b n p 0 < lo ∧ tkV b n p 0 ≤ hi := by
  unfold nuC numC at h
  split at h
  · split at h
    · exact absurd h (by decide)
    · split at h
      · exact ⟨by assumption, by assumption, by assumption⟩
      · exact absurd h (by decide)
  · exact absurd h (by decide)
theorem nuC_val {b : Nat → Int32} {n p : Nat} {lo hi : Int32} (v : Int32) (h : nuC b n p lo hi = 0) : tkV b n p v = tkV b n p 0 := tkV_0 v (nuC_ok h).1
theorem nuC_N {b : Nat → Int32} {n p : Nat} {lo : Int32} {hi : Nat} (hlo : 0 ≤ lo) (hh : hi < 2 ^ 30) (h : nuC b n p lo (nI hi) = 0) : ∃ k, k ≤ hi ∧ tkV b n p 0 = nI k := by
  obtain ⟨-, h1, h2⟩ := nuC_ok h
  exact le_ex (fun z => h1 (Int32.lt_of_lt_of_le z hlo)) (Int32.not_lt.mpr h2) hh
theorem ckT_no {b : Nat → Int32} {n p : Nat} {k : Int32 × Nat} (h : ¬ tkO b n p = true) : ckT b n p k = (1, tkS b n p) := if_neg h
theorem ckN_t {b : Nat → Int32} {n p : Nat} {lo hi : Int32} {k : Int32 × Nat} (h : ¬ tkO b n p = true) : ckN b n p lo hi k = (1, tkS b n p) := if_neg h
theorem ckN_no {b : Nat → Int32} {n p : Nat} {lo hi : Int32} {k : Int32 × Nat} (v : Int32) (h : tkO b n p = true) (hn : ¬ numC (tkK b n p) (tkV b n p v) lo hi = 0) : ckN b n p lo hi k = (numC (tkK b n p) (tkV b n p v) lo hi, tkS b n p) := by
  rw [numC_v] at hn ⊢
  unfold ckN ckT
  rw [if_pos h, if_neg hn]
theorem ckN_ok {b : Nat → Int32} {n p : Nat} {lo hi : Int32} {k : Int32 × Nat} (v : Int32) (h : tkO b n p = true) (hn : numC (tkK b n p) (tkV b n p v) lo hi = 0) : ckN b n p lo hi k = k ∧ nuC b n p lo hi = 0 ∧ tkV b n p v = tkV b n p 0 := by
  rw [numC_v] at hn
  refine ⟨?_, hn, nuC_val v hn⟩
  unfold ckN ckT
  rw [if_pos h, if_pos hn]
theorem ckA_t {b : Nat → Int32} {n p : Nat} {al : Int32} {k : Int32 × Nat} (h : ¬ tkO b n p = true) : ckA b n p al k = (1, tkS b n p) := if_neg h
theorem ckA_no {b : Nat → Int32} {n p : Nat} {al : Int32} {k : Int32 × Nat} (v : Int32) (h : tkO b n p = true) (hn : ¬ ntC (tkK b n p) (tkV b n p v) al = 0) : ckA b n p al k = (ntC (tkK b n p) (tkV b n p v) al, tkS b n p) := by
  unfold ntC at hn ⊢
  by_cases e : numC (tkK b n p) (tkV b n p v) 0 5 = 0
  · rw [if_pos e] at hn ⊢
    obtain ⟨h1, h2, h3⟩ := ckN_ok (k := if bt1 al (tkV b n p 0) = 0 then k else (4, tkS b n p)) v h e
    unfold ckA
    rw [h1]
    rw [h3] at hn ⊢
    by_cases e2 : bt1 al (tkV b n p 0) = 0
    · rw [if_pos e2] at hn; exact absurd rfl hn
    · rw [if_neg e2, if_neg e2]
  · rw [if_neg e] at hn ⊢
    unfold ckA
    exact ckN_no v h e
theorem ckA_ok {b : Nat → Int32} {n p : Nat} {al : Int32} {k : Int32 × Nat} (v : Int32) (h : tkO b n p = true) (hn : ntC (tkK b n p) (tkV b n p v) al = 0) : ckA b n p al k = k ∧ nuC b n p 0 5 = 0 ∧ tkV b n p v = tkV b n p 0 ∧ numC (tkK b n p) (tkV b n p v) 0 5 = 0 := by
  unfold ntC at hn
  by_cases e : numC (tkK b n p) (tkV b n p v) 0 5 = 0
  · rw [if_pos e] at hn
    obtain ⟨h1, h2, h3⟩ := ckN_ok (k := if bt1 al (tkV b n p 0) = 0 then k else (4, tkS b n p)) v h e
    refine ⟨?_, h2, h3, e⟩
    unfold ckA
    rw [h1]
    rw [h3] at hn
    by_cases e2 : bt1 al (tkV b n p 0) = 0
    · rw [if_pos e2]
    · rw [if_neg e2] at hn; exact absurd hn (by decide)
  · rw [if_neg e] at hn; exact absurd hn e
def lnStreet (b : Nat → Int32) (n p sa : Nat) (th : Int32) : Int32 × Nat := if th = 0 then ckN b n p 1 6 (ckN b n (tkN b n p) 1 4 (ckC b n (tkN b n (tkN b n p)))) else (4, sa)
def lnWorth (b : Nat → Int32) (n p : Nat) (pd : Int32) : Int32 × Nat := ckA b n p pd (ckN b n (tkN b n p) 0 9 (ckC b n (tkN b n (tkN b n p))))
def lnHome (b : Nat → Int32) (n p : Nat) (hm : Int32) : Int32 × Nat := ckN b n p 0 3 (if bt1 hm (tkV b n p 0) = 1 then (4, tkS b n p) else ckC b n (tkN b n p))
def lnStop (b : Nat → Int32) (n p : Nat) (sp : Int32) : Int32 × Nat := ckA b n p sp (ckC b n (tkN b n p))
theorem c_X3_takeClosing (l : Launch) (E : VE) (t0 : Nat) (b0 : Nat) (tb : Nat) (tl : Nat) (nx : Nat) (sa : Nat) (tf : Int32) (tp : Int32) (tk : Int32) (tv : Int32) (th : Int32) (tN : Int32) (tO : Int32) (tpd : Int32) (by_ : Nat → Int32) (h_nx : nx ≤ tl) (h_tl : tl ≤ 160) : Ct l E yX3_takeClosing cX3_takeClosing 1 (Option.some FieldType.boolean) 2 42 0 0 [.ref t0] [(t0, .inr (3, [.ref b0, .int (nI tl), .int (tf), .int (tp), .ref tb, .int (nI nx), .int (tk), .int (nI sa), .int (tv), .int (th), .int (tN), .int (tO), .int (tpd)])), (tb, .inl (E.2.1 0, 160, .inl (by_)))] (fun v wd => ∃ (tf_ : Int32) (tp_ : Int32) (tx_ : Nat) (tk_ : Int32) (ts_ : Nat) (tv_ : Int32), v = some (.int (if (ckC by_ tl nx).1 = 0 then 1 else 0)) ∧ wd = [(t0, .inr (3, [.ref b0, .int (nI tl), .int (tf_), .int (tp_), .ref tb, .int (nI tx_), .int (tk_), .int (nI ts_), .int (tv_), .int (th), .int (tN), .int (tO), .int (tpd)])), (tb, .inl (E.2.1 0, 160, .inl (by_)))] ∧ ((ckC by_ tl nx).1 = 0 → tf_ = tf ∧ tx_ = (ckC by_ tl nx).2) ∧ (¬ (ckC by_ tl nx).1 = 0 → tf_ = (ckC by_ tl nx).1 ∧ tp_ = nI (ckC by_ tl nx).2) ∧ (tx_ ≤ tl)) := by
  refine Ct.of (own := RX3) (nm := "takeClosing") (lv := [(0, .ref t0)]) (by decide) rfl rfl (Nat.le_of_ble_eq_true rfl) rfl ?_
  refine v_aload_n (pc := 0) 0 dX3_takeClosing_0 rfl rfl ?_
  refine v_callV (pc := 1) (rest := []) [0, 1] 0 lk_301 (c_X3_takeToken l E t0 b0 tb tl nx sa tf tp tk tv th tN tO tpd by_ (by first | assumption | omega) (by first | assumption | omega)) dX3_takeClosing_1 rfl rfl (Nat.le_of_ble_eq_true rfl) (by decide) rfl rfl rfl (by decide) rfl (Rt.len rfl) (Rt.go ?_)
  refine v_w (ws' := [(t0, .inr (3, [.ref b0, .int (nI tl), .int (if tkO by_ tl nx = true then tf else 1), .int (if tkO by_ tl nx = true then tp else nI (tkS by_ tl nx)), .ref tb, .int (nI (tkN by_ tl nx)), .int (tkK by_ tl nx), .int (nI (tkS by_ tl nx)), .int (tkV by_ tl nx tv), .int (th), .int (tN), .int (tO), .int (tpd)])), (tb, .inl (E.2.1 0, 160, .inl (by_)))]) rfl ?_
  refine v_st (st' := [.int (if tkO by_ tl nx = true then 1 else 0)]) rfl ?_
  refine v_ifB_eq (pc := 4) 31 dX3_takeClosing_4 (by decide) (fun c_4 => ?_) (fun c_4 => ?_)
  · skip
    refine v_iconst (pc := 31) (v := 0) dX3_takeClosing_31 (by decide) ?_
    refine v_zret (pc := 32) dX3_takeClosing_32 rfl rfl ⟨rfl, rfl⟩ ⟨(if tkO by_ tl nx = true then tf else 1), (if tkO by_ tl nx = true then tp else nI (tkS by_ tl nx)), (tkN by_ tl nx), (tkK by_ tl nx), (tkS by_ tl nx), (tkV by_ tl nx tv), ?_, rfl, ?_, ?_, ?_⟩
    · skip
      have hc : ckC by_ tl nx = (1, tkS by_ tl nx) := by unfold ckC ckT; rw [if_neg c_4]
      rw [hc]; rfl
    · skip
      have hc : ckC by_ tl nx = (1, tkS by_ tl nx) := by unfold ckC ckT; rw [if_neg c_4]
      rw [hc]; exact fun q => absurd q (show ¬ (1 : Int32) = 0 by decide)
    · skip
      have hc : ckC by_ tl nx = (1, tkS by_ tl nx) := by unfold ckC ckT; rw [if_neg c_4]
      rw [hc]; exact fun _ => ⟨if_neg c_4, if_neg c_4⟩
    · skip
      exact (tkN_b h_nx).2
  · skip
    refine v_aload_n (pc := 7) 0 dX3_takeClosing_7 rfl rfl ?_
    refine gf_186 (pc := 8) 0 dX3_takeClosing_8 rfl rfl ?_
    refine v_iconst (pc := 11) (v := 3) dX3_takeClosing_11 (by decide) ?_
    refine v_icmp_eq (pc := 12) 27 dX3_takeClosing_12 (by decide) (fun c_12 => ?_) (fun c_12 => ?_)
    · skip
      refine v_iconst (pc := 27) (v := 1) dX3_takeClosing_27 (by decide) ?_
      refine v_goto (pc := 28) 32 dX3_takeClosing_28 (by decide) ?_
      refine v_zret (pc := 32) dX3_takeClosing_32 rfl rfl ⟨rfl, rfl⟩ ⟨(if tkO by_ tl nx = true then tf else 1), (if tkO by_ tl nx = true then tp else nI (tkS by_ tl nx)), (tkN by_ tl nx), (tkK by_ tl nx), (tkS by_ tl nx), (tkV by_ tl nx tv), ?_, rfl, ?_, ?_, ?_⟩
      · skip
        have hc : ckC by_ tl nx = (0, tkN by_ tl nx) := by unfold ckC ckT; rw [if_pos c_4, if_pos c_12]
        rw [hc]; rfl
      · skip
        have hc : ckC by_ tl nx = (0, tkN by_ tl nx) := by unfold ckC ckT; rw [if_pos c_4, if_pos c_12]
        rw [hc]; exact fun _ => ⟨if_pos c_4, rfl⟩
      · skip
        have hc : ckC by_ tl nx = (0, tkN by_ tl nx) := by unfold ckC ckT; rw [if_pos c_4, if_pos c_12]
        rw [hc]; exact fun q => absurd rfl q
      · skip
        exact (tkN_b h_nx).2
    · skip
      refine v_aload_n (pc := 15) 0 dX3_takeClosing_15 rfl rfl ?_
      refine v_iconst (pc := 16) (v := 2) dX3_takeClosing_16 (by decide) ?_
      refine v_aload_n (pc := 17) 0 dX3_takeClosing_17 rfl rfl ?_
      refine gf_187 (pc := 18) 0 dX3_takeClosing_18 rfl rfl ?_
      refine v_callV (pc := 21) (rest := []) [0] 0 lk_311 (c_X3_fail l E t0 b0 tb tl (tkN by_ tl nx) (tkS by_ tl nx) (if tkO by_ tl nx = true then tf else 1) (if tkO by_ tl nx = true then tp else nI (tkS by_ tl nx)) (tkK by_ tl nx) (tkV by_ tl nx tv) th tN tO tpd 2 (nI (tkS by_ tl nx))) dX3_takeClosing_21 rfl rfl (Nat.le_of_ble_eq_true rfl) (by decide) rfl rfl rfl (by decide) rfl (Rt.len rfl) (Rt.go ?_)
      refine v_w (ws' := [(t0, .inr (3, [.ref b0, .int (nI tl), .int (2), .int ((nI (tkS by_ tl nx))), .ref tb, .int (nI (tkN by_ tl nx)), .int ((tkK by_ tl nx)), .int (nI (tkS by_ tl nx)), .int ((tkV by_ tl nx tv)), .int (th), .int (tN), .int (tO), .int (tpd)])), (tb, .inl (E.2.1 0, 160, .inl (by_)))]) rfl ?_
      refine v_st (st' := [.int (0)]) rfl ?_
      refine v_if_eq (pc := 24) 31 dX3_takeClosing_24 (by decide) (fun _ => ?_) (fun c => absurd c (by decide))
      refine v_iconst (pc := 31) (v := 0) dX3_takeClosing_31 (by decide) ?_
      refine v_zret (pc := 32) dX3_takeClosing_32 rfl rfl ⟨rfl, rfl⟩ ⟨(2), ((nI (tkS by_ tl nx))), (tkN by_ tl nx), ((tkK by_ tl nx)), (tkS by_ tl nx), ((tkV by_ tl nx tv)), ?_, rfl, ?_, ?_, ?_⟩
      · skip
        have hc : ckC by_ tl nx = (2, tkS by_ tl nx) := by unfold ckC ckT; rw [if_pos c_4, if_neg c_12]
        rw [hc]; rfl
      · skip
        have hc : ckC by_ tl nx = (2, tkS by_ tl nx) := by unfold ckC ckT; rw [if_pos c_4, if_neg c_12]
        rw [hc]; exact fun q => absurd q (show ¬ (2 : Int32) = 0 by decide)
      · skip
        have hc : ckC by_ tl nx = (2, tkS by_ tl nx) := by unfold ckC ckT; rw [if_pos c_4, if_neg c_12]
        rw [hc]; exact fun _ => ⟨rfl, rfl⟩
      · skip
        exact (tkN_b h_nx).2
theorem c_X3_takeStop (l : Launch) (E : VE) (t0 : Nat) (b0 : Nat) (tb : Nat) (tl : Nat) (nx : Nat) (sa : Nat) (tf : Int32) (tp : Int32) (tk : Int32) (tv : Int32) (th : Int32) (tN : Int32) (tO : Int32) (tpd : Int32) (by_ : Nat → Int32) (bo : Nat) (bw : Nat) (bn : Nat) (bb : Nat) (bv : Nat) (rl : Nat) (kn : Nat) (kp : Nat) (hm : Int32) (sp : Int32) (td : Int32) (dt : Int32) (h_nx : nx ≤ tl) (h_tl : tl ≤ 160) : Ct l E yX3_takeStop cX3_takeStop 1 (Option.some FieldType.boolean) 3 65 0 0 [.ref t0] [(t0, .inr (3, [.ref b0, .int (nI tl), .int (tf), .int (tp), .ref tb, .int (nI nx), .int (tk), .int (nI sa), .int (tv), .int (th), .int (tN), .int (tO), .int (tpd)])), (tb, .inl (E.2.1 0, 160, .inl (by_))), (b0, .inr (2, [.int (nI kn), .int (nI kp), .int (nI rl), .int (hm), .int (sp), .int (td), .int (dt), .ref bo, .ref bw, .ref bn, .ref bb, .ref bv]))] (fun v wd => ∃ (tf_ : Int32) (tp_ : Int32) (tx_ : Nat) (tk_ : Int32) (ts_ : Nat) (tv_ : Int32) (tN_ : Int32) (sp_ : Int32), v = some (.int (if (lnStop by_ tl nx sp).1 = 0 then 1 else 0)) ∧ wd = [(t0, .inr (3, [.ref b0, .int (nI tl), .int (tf_), .int (tp_), .ref tb, .int (nI tx_), .int (tk_), .int (nI ts_), .int (tv_), .int (th), .int (tN_), .int (tO), .int (tpd)])), (tb, .inl (E.2.1 0, 160, .inl (by_))), (b0, .inr (2, [.int (nI kn), .int (nI kp), .int (nI rl), .int (hm), .int (sp_), .int (td), .int (dt), .ref bo, .ref bw, .ref bn, .ref bb, .ref bv]))] ∧ ((lnStop by_ tl nx sp).1 = 0 → tf_ = tf ∧ tx_ = (lnStop by_ tl nx sp).2 ∧ sp_ = sp ||| ((1 : Int32) <<< (tkV by_ tl nx 0 &&& 31)) ∧ tN_ = tN ||| ((1 : Int32) <<< (tkV by_ tl nx 0 &&& 31))) ∧ (¬ (lnStop by_ tl nx sp).1 = 0 → tf_ = (lnStop by_ tl nx sp).1 ∧ tp_ = nI (lnStop by_ tl nx sp).2) ∧ (tx_ ≤ tl)) := by
  refine Ct.of (own := RX3) (nm := "takeStop") (lv := [(0, .ref t0)]) (by decide) rfl rfl (Nat.le_of_ble_eq_true rfl) rfl ?_
  refine v_aload_n (pc := 0) 0 dX3_takeStop_0 rfl rfl ?_
  refine v_callV (pc := 1) (rest := []) [0, 1] 0 lk_301 (c_X3_takeToken l E t0 b0 tb tl nx sa tf tp tk tv th tN tO tpd by_ (by first | assumption | omega) (by first | assumption | omega)) dX3_takeStop_1 rfl rfl (Nat.le_of_ble_eq_true rfl) (by decide) rfl rfl rfl (by decide) rfl (Rt.len rfl) (Rt.go ?_)
  refine v_w (ws' := [(t0, .inr (3, [.ref b0, .int (nI tl), .int (if tkO by_ tl nx = true then tf else 1), .int (if tkO by_ tl nx = true then tp else nI (tkS by_ tl nx)), .ref tb, .int (nI (tkN by_ tl nx)), .int (tkK by_ tl nx), .int (nI (tkS by_ tl nx)), .int (tkV by_ tl nx tv), .int (th), .int (tN), .int (tO), .int (tpd)])), (tb, .inl (E.2.1 0, 160, .inl (by_))), (b0, .inr (2, [.int (nI kn), .int (nI kp), .int (nI rl), .int (hm), .int (sp), .int (td), .int (dt), .ref bo, .ref bw, .ref bn, .ref bb, .ref bv]))]) rfl ?_
  refine v_st (st' := [.int (if tkO by_ tl nx = true then 1 else 0)]) rfl ?_
  refine v_ifB_eq (pc := 4) 21 dX3_takeStop_4 (by decide) (fun c_4 => ?_) (fun c_4 => ?_)
  · skip
    refine v_iconst (pc := 21) (v := 0) dX3_takeStop_21 (by decide) ?_
    refine v_zret (pc := 22) dX3_takeStop_22 rfl rfl ⟨rfl, rfl⟩ ⟨(if tkO by_ tl nx = true then tf else 1), (if tkO by_ tl nx = true then tp else nI (tkS by_ tl nx)), (tkN by_ tl nx), (tkK by_ tl nx), (tkS by_ tl nx), (tkV by_ tl nx tv), (tN), (sp), ?_, rfl, ?_, ?_, ?_⟩
    · skip
      have hc : lnStop by_ tl nx sp = (1, tkS by_ tl nx) := by exact ckA_t c_4
      rw [hc]; rfl
    · skip
      have hc : lnStop by_ tl nx sp = (1, tkS by_ tl nx) := by exact ckA_t c_4
      rw [hc]; exact fun q => absurd q (show ¬ (1 : Int32) = 0 by decide)
    · skip
      have hc : lnStop by_ tl nx sp = (1, tkS by_ tl nx) := by exact ckA_t c_4
      rw [hc]; exact fun _ => ⟨if_neg c_4, if_neg c_4⟩
    · skip
      exact (tkN_b h_nx).2
  · skip
    refine v_aload_n (pc := 7) 0 dX3_takeStop_7 rfl rfl ?_
    refine v_aload_n (pc := 8) 0 dX3_takeStop_8 rfl rfl ?_
    refine gf_176 (pc := 9) 0 dX3_takeStop_9 rfl rfl ?_
    refine gf_105 (pc := 12) 2 dX3_takeStop_12 rfl rfl ?_
    refine v_callV (pc := 15) (rest := []) [0] 0 lk_393 (c_X3_isNoteNotIn l E t0 b0 tb tl (tkN by_ tl nx) (tkS by_ tl nx) (if tkO by_ tl nx = true then tf else 1) (if tkO by_ tl nx = true then tp else nI (tkS by_ tl nx)) (tkK by_ tl nx) (tkV by_ tl nx tv) th tN tO tpd sp) dX3_takeStop_15 rfl rfl (Nat.le_of_ble_eq_true rfl) (by decide) rfl rfl rfl (by decide) rfl (Rt.len rfl) (Rt.go ?_)
    refine v_w (ws' := [(t0, .inr (3, [.ref b0, .int (nI tl), .int (if ntC (tkK by_ tl nx) (tkV by_ tl nx tv) sp = 0 then (if tkO by_ tl nx = true then tf else 1) else ntC (tkK by_ tl nx) (tkV by_ tl nx tv) sp), .int (if ntC (tkK by_ tl nx) (tkV by_ tl nx tv) sp = 0 then (if tkO by_ tl nx = true then tp else nI (tkS by_ tl nx)) else nI (tkS by_ tl nx)), .ref tb, .int (nI (tkN by_ tl nx)), .int ((tkK by_ tl nx)), .int (nI (tkS by_ tl nx)), .int ((tkV by_ tl nx tv)), .int (th), .int (if numC (tkK by_ tl nx) (tkV by_ tl nx tv) 0 5 = 0 then tN ||| ((1 : Int32) <<< ((tkV by_ tl nx tv) &&& 31)) else tN), .int (tO), .int (tpd)])), (tb, .inl (E.2.1 0, 160, .inl (by_))), (b0, .inr (2, [.int (nI kn), .int (nI kp), .int (nI rl), .int (hm), .int (sp), .int (td), .int (dt), .ref bo, .ref bw, .ref bn, .ref bb, .ref bv]))]) rfl ?_
    refine v_st (st' := [.int (if ntC (tkK by_ tl nx) (tkV by_ tl nx tv) sp = 0 then 1 else 0)]) rfl ?_
    refine v_ifB_ne (pc := 18) 23 dX3_takeStop_18 (by decide) (fun c_18 => ?_) (fun c_18 => ?_)
    · skip
      refine v_aload_n (pc := 23) 0 dX3_takeStop_23 rfl rfl ?_
      refine gf_176 (pc := 24) 0 dX3_takeStop_24 rfl rfl ?_
      refine v_dup (pc := 27) dX3_takeStop_27 rfl ?_
      refine gf_105 (pc := 28) 2 dX3_takeStop_28 rfl rfl ?_
      refine v_iconst (pc := 31) (v := 1) dX3_takeStop_31 (by decide) ?_
      refine v_aload_n (pc := 32) 0 dX3_takeStop_32 rfl rfl ?_
      refine gf_188 (pc := 33) 0 dX3_takeStop_33 rfl rfl ?_
      refine v_ishl (pc := 36) dX3_takeStop_36 ?_
      refine v_ior (pc := 37) dX3_takeStop_37 ?_
      refine pf_105 (pc := 38) (ws' := [(t0, .inr (3, [.ref b0, .int (nI tl), .int (if ntC (tkK by_ tl nx) (tkV by_ tl nx tv) sp = 0 then (if tkO by_ tl nx = true then tf else 1) else ntC (tkK by_ tl nx) (tkV by_ tl nx tv) sp), .int (if ntC (tkK by_ tl nx) (tkV by_ tl nx tv) sp = 0 then (if tkO by_ tl nx = true then tp else nI (tkS by_ tl nx)) else nI (tkS by_ tl nx)), .ref tb, .int (nI (tkN by_ tl nx)), .int ((tkK by_ tl nx)), .int (nI (tkS by_ tl nx)), .int ((tkV by_ tl nx tv)), .int (th), .int (if numC (tkK by_ tl nx) (tkV by_ tl nx tv) 0 5 = 0 then tN ||| ((1 : Int32) <<< ((tkV by_ tl nx tv) &&& 31)) else tN), .int (tO), .int (tpd)])), (tb, .inl (E.2.1 0, 160, .inl (by_))), (b0, .inr (2, [.int (nI kn), .int (nI kp), .int (nI rl), .int (hm), .int ((sp) ||| ((1 : Int32) <<< (((tkV by_ tl nx tv)) &&& 31))), .int (td), .int (dt), .ref bo, .ref bw, .ref bn, .ref bb, .ref bv]))]) 2 dX3_takeStop_38 rfl rfl rfl (Nat.le_of_ble_eq_true rfl) rfl ?_
      refine v_aload_n (pc := 41) 0 dX3_takeStop_41 rfl rfl ?_
      refine v_callV (pc := 42) (rest := []) [0, 1] 0 lk_380 (c_X3_takeClosing l E t0 b0 tb tl (tkN by_ tl nx) (tkS by_ tl nx) (if ntC (tkK by_ tl nx) (tkV by_ tl nx tv) sp = 0 then (if tkO by_ tl nx = true then tf else 1) else ntC (tkK by_ tl nx) (tkV by_ tl nx tv) sp) (if ntC (tkK by_ tl nx) (tkV by_ tl nx tv) sp = 0 then (if tkO by_ tl nx = true then tp else nI (tkS by_ tl nx)) else nI (tkS by_ tl nx)) (tkK by_ tl nx) (tkV by_ tl nx tv) th (if numC (tkK by_ tl nx) (tkV by_ tl nx tv) 0 5 = 0 then tN ||| ((1 : Int32) <<< ((tkV by_ tl nx tv) &&& 31)) else tN) tO tpd by_ (tkN_b h_nx).2 h_tl) dX3_takeStop_42 rfl rfl (Nat.le_of_ble_eq_true rfl) (by decide) rfl rfl rfl (by decide) rfl (by rintro _ _ ⟨_, _, _, _, _, _, _, rfl, _⟩; rfl) ?_
      rintro _ _ ⟨tf_42, tp_42, tx_42, tk_42, ts_42, tv_42, rfl, rfl, hf42_0, hf42_1, hf42_2⟩
      refine v_w (ws' := [(t0, .inr (3, [.ref b0, .int (nI tl), .int (tf_42), .int (tp_42), .ref tb, .int (nI tx_42), .int (tk_42), .int (nI ts_42), .int (tv_42), .int (th), .int ((if numC (tkK by_ tl nx) (tkV by_ tl nx tv) 0 5 = 0 then tN ||| ((1 : Int32) <<< ((tkV by_ tl nx tv) &&& 31)) else tN)), .int (tO), .int (tpd)])), (tb, .inl (E.2.1 0, 160, .inl (by_))), (b0, .inr (2, [.int (nI kn), .int (nI kp), .int (nI rl), .int (hm), .int ((sp) ||| ((1 : Int32) <<< (((tkV by_ tl nx tv)) &&& 31))), .int (td), .int (dt), .ref bo, .ref bw, .ref bn, .ref bb, .ref bv]))]) rfl ?_
      refine v_st (st' := [.int (if (ckC by_ tl (tkN by_ tl nx)).1 = 0 then 1 else 0)]) rfl ?_
      refine v_zret (pc := 45) dX3_takeStop_45 rfl (zn01 _) ⟨rfl, rfl⟩ ⟨(tf_42), (tp_42), (tx_42), (tk_42), (ts_42), (tv_42), ((if numC (tkK by_ tl nx) (tkV by_ tl nx tv) 0 5 = 0 then tN ||| ((1 : Int32) <<< ((tkV by_ tl nx tv) &&& 31)) else tN)), ((sp) ||| ((1 : Int32) <<< (((tkV by_ tl nx tv)) &&& 31))), ?_, rfl, ?_, ?_, ?_⟩
      · skip
        obtain ⟨hc, h2, h3, h4⟩ : lnStop by_ tl nx sp = ckC by_ tl (tkN by_ tl nx) ∧ _ := ckA_ok tv c_4 c_18
        rw [hc]
      · skip
        obtain ⟨hc, h2, h3, h4⟩ : lnStop by_ tl nx sp = ckC by_ tl (tkN by_ tl nx) ∧ _ := ckA_ok tv c_4 c_18
        rw [hc]; exact fun q => ⟨(hf42_0 q).1.trans (by rw [if_pos c_18, if_pos c_4]), (hf42_0 q).2, by rw [h3], by rw [if_pos h4, h3]⟩
      · skip
        obtain ⟨hc, h2, h3, h4⟩ : lnStop by_ tl nx sp = ckC by_ tl (tkN by_ tl nx) ∧ _ := ckA_ok tv c_4 c_18
        rw [hc]; exact hf42_1
      · skip
        exact hf42_2
    · skip
      refine v_iconst (pc := 21) (v := 0) dX3_takeStop_21 (by decide) ?_
      refine v_zret (pc := 22) dX3_takeStop_22 rfl rfl ⟨rfl, rfl⟩ ⟨(if ntC (tkK by_ tl nx) (tkV by_ tl nx tv) sp = 0 then (if tkO by_ tl nx = true then tf else 1) else ntC (tkK by_ tl nx) (tkV by_ tl nx tv) sp), (if ntC (tkK by_ tl nx) (tkV by_ tl nx tv) sp = 0 then (if tkO by_ tl nx = true then tp else nI (tkS by_ tl nx)) else nI (tkS by_ tl nx)), (tkN by_ tl nx), ((tkK by_ tl nx)), (tkS by_ tl nx), ((tkV by_ tl nx tv)), (if numC (tkK by_ tl nx) (tkV by_ tl nx tv) 0 5 = 0 then tN ||| ((1 : Int32) <<< ((tkV by_ tl nx tv) &&& 31)) else tN), (sp), ?_, rfl, ?_, ?_, ?_⟩
      · skip
        have hnz : ¬ ntC (tkK by_ tl nx) (tkV by_ tl nx tv) sp = 0 := c_18
        have hc : lnStop by_ tl nx sp = (ntC (tkK by_ tl nx) (tkV by_ tl nx tv) sp, tkS by_ tl nx) := by exact ckA_no tv c_4 c_18
        rw [hc]; exact congrArg (fun z => some (Value.int z)) (if_neg hnz).symm
      · skip
        have hnz : ¬ ntC (tkK by_ tl nx) (tkV by_ tl nx tv) sp = 0 := c_18
        have hc : lnStop by_ tl nx sp = (ntC (tkK by_ tl nx) (tkV by_ tl nx tv) sp, tkS by_ tl nx) := by exact ckA_no tv c_4 c_18
        rw [hc]; exact fun q => absurd q hnz
      · skip
        have hnz : ¬ ntC (tkK by_ tl nx) (tkV by_ tl nx tv) sp = 0 := c_18
        have hc : lnStop by_ tl nx sp = (ntC (tkK by_ tl nx) (tkV by_ tl nx tv) sp, tkS by_ tl nx) := by exact ckA_no tv c_4 c_18
        rw [hc]; exact fun _ => ⟨if_neg c_18, if_neg c_18⟩
      · skip
        exact (tkN_b h_nx).2
theorem c_X3_takeToday (l : Launch) (E : VE) (t0 : Nat) (b0 : Nat) (tb : Nat) (tl : Nat) (nx : Nat) (sa : Nat) (tf : Int32) (tp : Int32) (tk : Int32) (tv : Int32) (th : Int32) (tN : Int32) (tO : Int32) (tpd : Int32) (by_ : Nat → Int32) (bo : Nat) (bw : Nat) (bn : Nat) (bb : Nat) (bv : Nat) (rl : Nat) (kn : Nat) (kp : Nat) (hm : Int32) (sp : Int32) (td : Int32) (dt : Int32) (h_nx : nx ≤ tl) (h_tl : tl ≤ 160) : Ct l E yX3_takeToday cX3_takeToday 1 (Option.some FieldType.boolean) 3 65 0 0 [.ref t0] [(t0, .inr (3, [.ref b0, .int (nI tl), .int (tf), .int (tp), .ref tb, .int (nI nx), .int (tk), .int (nI sa), .int (tv), .int (th), .int (tN), .int (tO), .int (tpd)])), (tb, .inl (E.2.1 0, 160, .inl (by_))), (b0, .inr (2, [.int (nI kn), .int (nI kp), .int (nI rl), .int (hm), .int (sp), .int (td), .int (dt), .ref bo, .ref bw, .ref bn, .ref bb, .ref bv]))] (fun v wd => ∃ (tf_ : Int32) (tp_ : Int32) (tx_ : Nat) (tk_ : Int32) (ts_ : Nat) (tv_ : Int32) (tN_ : Int32) (td_ : Int32), v = some (.int (if (lnStop by_ tl nx td).1 = 0 then 1 else 0)) ∧ wd = [(t0, .inr (3, [.ref b0, .int (nI tl), .int (tf_), .int (tp_), .ref tb, .int (nI tx_), .int (tk_), .int (nI ts_), .int (tv_), .int (th), .int (tN_), .int (tO), .int (tpd)])), (tb, .inl (E.2.1 0, 160, .inl (by_))), (b0, .inr (2, [.int (nI kn), .int (nI kp), .int (nI rl), .int (hm), .int (sp), .int (td_), .int (dt), .ref bo, .ref bw, .ref bn, .ref bb, .ref bv]))] ∧ ((lnStop by_ tl nx td).1 = 0 → tf_ = tf ∧ tx_ = (lnStop by_ tl nx td).2 ∧ td_ = td ||| ((1 : Int32) <<< (tkV by_ tl nx 0 &&& 31)) ∧ tN_ = tN ||| ((1 : Int32) <<< (tkV by_ tl nx 0 &&& 31))) ∧ (¬ (lnStop by_ tl nx td).1 = 0 → tf_ = (lnStop by_ tl nx td).1 ∧ tp_ = nI (lnStop by_ tl nx td).2) ∧ (tx_ ≤ tl)) := by
  refine Ct.of (own := RX3) (nm := "takeToday") (lv := [(0, .ref t0)]) (by decide) rfl rfl (Nat.le_of_ble_eq_true rfl) rfl ?_
  refine v_aload_n (pc := 0) 0 dX3_takeToday_0 rfl rfl ?_
  refine v_callV (pc := 1) (rest := []) [0, 1] 0 lk_301 (c_X3_takeToken l E t0 b0 tb tl nx sa tf tp tk tv th tN tO tpd by_ (by first | assumption | omega) (by first | assumption | omega)) dX3_takeToday_1 rfl rfl (Nat.le_of_ble_eq_true rfl) (by decide) rfl rfl rfl (by decide) rfl (Rt.len rfl) (Rt.go ?_)
  refine v_w (ws' := [(t0, .inr (3, [.ref b0, .int (nI tl), .int (if tkO by_ tl nx = true then tf else 1), .int (if tkO by_ tl nx = true then tp else nI (tkS by_ tl nx)), .ref tb, .int (nI (tkN by_ tl nx)), .int (tkK by_ tl nx), .int (nI (tkS by_ tl nx)), .int (tkV by_ tl nx tv), .int (th), .int (tN), .int (tO), .int (tpd)])), (tb, .inl (E.2.1 0, 160, .inl (by_))), (b0, .inr (2, [.int (nI kn), .int (nI kp), .int (nI rl), .int (hm), .int (sp), .int (td), .int (dt), .ref bo, .ref bw, .ref bn, .ref bb, .ref bv]))]) rfl ?_
  refine v_st (st' := [.int (if tkO by_ tl nx = true then 1 else 0)]) rfl ?_
  refine v_ifB_eq (pc := 4) 21 dX3_takeToday_4 (by decide) (fun c_4 => ?_) (fun c_4 => ?_)
  · skip
    refine v_iconst (pc := 21) (v := 0) dX3_takeToday_21 (by decide) ?_
    refine v_zret (pc := 22) dX3_takeToday_22 rfl rfl ⟨rfl, rfl⟩ ⟨(if tkO by_ tl nx = true then tf else 1), (if tkO by_ tl nx = true then tp else nI (tkS by_ tl nx)), (tkN by_ tl nx), (tkK by_ tl nx), (tkS by_ tl nx), (tkV by_ tl nx tv), (tN), (td), ?_, rfl, ?_, ?_, ?_⟩
    · skip
      have hc : lnStop by_ tl nx td = (1, tkS by_ tl nx) := by exact ckA_t c_4
      rw [hc]; rfl
    · skip
      have hc : lnStop by_ tl nx td = (1, tkS by_ tl nx) := by exact ckA_t c_4
      rw [hc]; exact fun q => absurd q (show ¬ (1 : Int32) = 0 by decide)
    · skip
      have hc : lnStop by_ tl nx td = (1, tkS by_ tl nx) := by exact ckA_t c_4
      rw [hc]; exact fun _ => ⟨if_neg c_4, if_neg c_4⟩
    · skip
      exact (tkN_b h_nx).2
  · skip
    refine v_aload_n (pc := 7) 0 dX3_takeToday_7 rfl rfl ?_
    refine v_aload_n (pc := 8) 0 dX3_takeToday_8 rfl rfl ?_
    refine gf_176 (pc := 9) 0 dX3_takeToday_9 rfl rfl ?_
    refine gf_108 (pc := 12) 2 dX3_takeToday_12 rfl rfl ?_
    refine v_callV (pc := 15) (rest := []) [0] 0 lk_393 (c_X3_isNoteNotIn l E t0 b0 tb tl (tkN by_ tl nx) (tkS by_ tl nx) (if tkO by_ tl nx = true then tf else 1) (if tkO by_ tl nx = true then tp else nI (tkS by_ tl nx)) (tkK by_ tl nx) (tkV by_ tl nx tv) th tN tO tpd td) dX3_takeToday_15 rfl rfl (Nat.le_of_ble_eq_true rfl) (by decide) rfl rfl rfl (by decide) rfl (Rt.len rfl) (Rt.go ?_)
    refine v_w (ws' := [(t0, .inr (3, [.ref b0, .int (nI tl), .int (if ntC (tkK by_ tl nx) (tkV by_ tl nx tv) td = 0 then (if tkO by_ tl nx = true then tf else 1) else ntC (tkK by_ tl nx) (tkV by_ tl nx tv) td), .int (if ntC (tkK by_ tl nx) (tkV by_ tl nx tv) td = 0 then (if tkO by_ tl nx = true then tp else nI (tkS by_ tl nx)) else nI (tkS by_ tl nx)), .ref tb, .int (nI (tkN by_ tl nx)), .int ((tkK by_ tl nx)), .int (nI (tkS by_ tl nx)), .int ((tkV by_ tl nx tv)), .int (th), .int (if numC (tkK by_ tl nx) (tkV by_ tl nx tv) 0 5 = 0 then tN ||| ((1 : Int32) <<< ((tkV by_ tl nx tv) &&& 31)) else tN), .int (tO), .int (tpd)])), (tb, .inl (E.2.1 0, 160, .inl (by_))), (b0, .inr (2, [.int (nI kn), .int (nI kp), .int (nI rl), .int (hm), .int (sp), .int (td), .int (dt), .ref bo, .ref bw, .ref bn, .ref bb, .ref bv]))]) rfl ?_
    refine v_st (st' := [.int (if ntC (tkK by_ tl nx) (tkV by_ tl nx tv) td = 0 then 1 else 0)]) rfl ?_
    refine v_ifB_ne (pc := 18) 23 dX3_takeToday_18 (by decide) (fun c_18 => ?_) (fun c_18 => ?_)
    · skip
      refine v_aload_n (pc := 23) 0 dX3_takeToday_23 rfl rfl ?_
      refine gf_176 (pc := 24) 0 dX3_takeToday_24 rfl rfl ?_
      refine v_dup (pc := 27) dX3_takeToday_27 rfl ?_
      refine gf_108 (pc := 28) 2 dX3_takeToday_28 rfl rfl ?_
      refine v_iconst (pc := 31) (v := 1) dX3_takeToday_31 (by decide) ?_
      refine v_aload_n (pc := 32) 0 dX3_takeToday_32 rfl rfl ?_
      refine gf_188 (pc := 33) 0 dX3_takeToday_33 rfl rfl ?_
      refine v_ishl (pc := 36) dX3_takeToday_36 ?_
      refine v_ior (pc := 37) dX3_takeToday_37 ?_
      refine pf_108 (pc := 38) (ws' := [(t0, .inr (3, [.ref b0, .int (nI tl), .int (if ntC (tkK by_ tl nx) (tkV by_ tl nx tv) td = 0 then (if tkO by_ tl nx = true then tf else 1) else ntC (tkK by_ tl nx) (tkV by_ tl nx tv) td), .int (if ntC (tkK by_ tl nx) (tkV by_ tl nx tv) td = 0 then (if tkO by_ tl nx = true then tp else nI (tkS by_ tl nx)) else nI (tkS by_ tl nx)), .ref tb, .int (nI (tkN by_ tl nx)), .int ((tkK by_ tl nx)), .int (nI (tkS by_ tl nx)), .int ((tkV by_ tl nx tv)), .int (th), .int (if numC (tkK by_ tl nx) (tkV by_ tl nx tv) 0 5 = 0 then tN ||| ((1 : Int32) <<< ((tkV by_ tl nx tv) &&& 31)) else tN), .int (tO), .int (tpd)])), (tb, .inl (E.2.1 0, 160, .inl (by_))), (b0, .inr (2, [.int (nI kn), .int (nI kp), .int (nI rl), .int (hm), .int (sp), .int ((td) ||| ((1 : Int32) <<< (((tkV by_ tl nx tv)) &&& 31))), .int (dt), .ref bo, .ref bw, .ref bn, .ref bb, .ref bv]))]) 2 dX3_takeToday_38 rfl rfl rfl (Nat.le_of_ble_eq_true rfl) rfl ?_
      refine v_aload_n (pc := 41) 0 dX3_takeToday_41 rfl rfl ?_
      refine v_callV (pc := 42) (rest := []) [0, 1] 0 lk_380 (c_X3_takeClosing l E t0 b0 tb tl (tkN by_ tl nx) (tkS by_ tl nx) (if ntC (tkK by_ tl nx) (tkV by_ tl nx tv) td = 0 then (if tkO by_ tl nx = true then tf else 1) else ntC (tkK by_ tl nx) (tkV by_ tl nx tv) td) (if ntC (tkK by_ tl nx) (tkV by_ tl nx tv) td = 0 then (if tkO by_ tl nx = true then tp else nI (tkS by_ tl nx)) else nI (tkS by_ tl nx)) (tkK by_ tl nx) (tkV by_ tl nx tv) th (if numC (tkK by_ tl nx) (tkV by_ tl nx tv) 0 5 = 0 then tN ||| ((1 : Int32) <<< ((tkV by_ tl nx tv) &&& 31)) else tN) tO tpd by_ (tkN_b h_nx).2 h_tl) dX3_takeToday_42 rfl rfl (Nat.le_of_ble_eq_true rfl) (by decide) rfl rfl rfl (by decide) rfl (by rintro _ _ ⟨_, _, _, _, _, _, _, rfl, _⟩; rfl) ?_
      rintro _ _ ⟨tf_42, tp_42, tx_42, tk_42, ts_42, tv_42, rfl, rfl, hf42_0, hf42_1, hf42_2⟩
      refine v_w (ws' := [(t0, .inr (3, [.ref b0, .int (nI tl), .int (tf_42), .int (tp_42), .ref tb, .int (nI tx_42), .int (tk_42), .int (nI ts_42), .int (tv_42), .int (th), .int ((if numC (tkK by_ tl nx) (tkV by_ tl nx tv) 0 5 = 0 then tN ||| ((1 : Int32) <<< ((tkV by_ tl nx tv) &&& 31)) else tN)), .int (tO), .int (tpd)])), (tb, .inl (E.2.1 0, 160, .inl (by_))), (b0, .inr (2, [.int (nI kn), .int (nI kp), .int (nI rl), .int (hm), .int (sp), .int ((td) ||| ((1 : Int32) <<< (((tkV by_ tl nx tv)) &&& 31))), .int (dt), .ref bo, .ref bw, .ref bn, .ref bb, .ref bv]))]) rfl ?_
      refine v_st (st' := [.int (if (ckC by_ tl (tkN by_ tl nx)).1 = 0 then 1 else 0)]) rfl ?_
      refine v_zret (pc := 45) dX3_takeToday_45 rfl (zn01 _) ⟨rfl, rfl⟩ ⟨(tf_42), (tp_42), (tx_42), (tk_42), (ts_42), (tv_42), ((if numC (tkK by_ tl nx) (tkV by_ tl nx tv) 0 5 = 0 then tN ||| ((1 : Int32) <<< ((tkV by_ tl nx tv) &&& 31)) else tN)), ((td) ||| ((1 : Int32) <<< (((tkV by_ tl nx tv)) &&& 31))), ?_, rfl, ?_, ?_, ?_⟩
      · skip
        obtain ⟨hc, h2, h3, h4⟩ : lnStop by_ tl nx td = ckC by_ tl (tkN by_ tl nx) ∧ _ := ckA_ok tv c_4 c_18
        rw [hc]
      · skip
        obtain ⟨hc, h2, h3, h4⟩ : lnStop by_ tl nx td = ckC by_ tl (tkN by_ tl nx) ∧ _ := ckA_ok tv c_4 c_18
        rw [hc]; exact fun q => ⟨(hf42_0 q).1.trans (by rw [if_pos c_18, if_pos c_4]), (hf42_0 q).2, by rw [h3], by rw [if_pos h4, h3]⟩
      · skip
        obtain ⟨hc, h2, h3, h4⟩ : lnStop by_ tl nx td = ckC by_ tl (tkN by_ tl nx) ∧ _ := ckA_ok tv c_4 c_18
        rw [hc]; exact hf42_1
      · skip
        exact hf42_2
    · skip
      refine v_iconst (pc := 21) (v := 0) dX3_takeToday_21 (by decide) ?_
      refine v_zret (pc := 22) dX3_takeToday_22 rfl rfl ⟨rfl, rfl⟩ ⟨(if ntC (tkK by_ tl nx) (tkV by_ tl nx tv) td = 0 then (if tkO by_ tl nx = true then tf else 1) else ntC (tkK by_ tl nx) (tkV by_ tl nx tv) td), (if ntC (tkK by_ tl nx) (tkV by_ tl nx tv) td = 0 then (if tkO by_ tl nx = true then tp else nI (tkS by_ tl nx)) else nI (tkS by_ tl nx)), (tkN by_ tl nx), ((tkK by_ tl nx)), (tkS by_ tl nx), ((tkV by_ tl nx tv)), (if numC (tkK by_ tl nx) (tkV by_ tl nx tv) 0 5 = 0 then tN ||| ((1 : Int32) <<< ((tkV by_ tl nx tv) &&& 31)) else tN), (td), ?_, rfl, ?_, ?_, ?_⟩
      · skip
        have hnz : ¬ ntC (tkK by_ tl nx) (tkV by_ tl nx tv) td = 0 := c_18
        have hc : lnStop by_ tl nx td = (ntC (tkK by_ tl nx) (tkV by_ tl nx tv) td, tkS by_ tl nx) := by exact ckA_no tv c_4 c_18
        rw [hc]; exact congrArg (fun z => some (Value.int z)) (if_neg hnz).symm
      · skip
        have hnz : ¬ ntC (tkK by_ tl nx) (tkV by_ tl nx tv) td = 0 := c_18
        have hc : lnStop by_ tl nx td = (ntC (tkK by_ tl nx) (tkV by_ tl nx tv) td, tkS by_ tl nx) := by exact ckA_no tv c_4 c_18
        rw [hc]; exact fun q => absurd q hnz
      · skip
        have hnz : ¬ ntC (tkK by_ tl nx) (tkV by_ tl nx tv) td = 0 := c_18
        have hc : lnStop by_ tl nx td = (ntC (tkK by_ tl nx) (tkV by_ tl nx tv) td, tkS by_ tl nx) := by exact ckA_no tv c_4 c_18
        rw [hc]; exact fun _ => ⟨if_neg c_18, if_neg c_18⟩
      · skip
        exact (tkN_b h_nx).2
