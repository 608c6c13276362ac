/-! ===== the law: its loop ===== -/
theorem law_loop {l : Launch} {E : VE} {p : Program} {e : Env} {s : State} {m : MethodId} {below : List Frame} {meth : Method} {c : Code} {b L : Nat} {xs : Nat → Int32} {ad : Nat → Nat} (X : LX E p s m meth c b L xs) (hL : L ≤ 2560) : ∀ (n i : Nat) (ws : va_W), i ≤ L → L + 1 ≤ i + n → IV E ad ws → LQ l E p e s m below meth c b ad i 18 [] ws := by
  intro n
  induction n with
  | zero => intro i ws h1 h2; exact absurd h2 (by omega)
  | succ n ih =>
    intro i ws h1 h2 hI
    refine g_il X 3 dL_law_18 rfl rfl ?_
    refine g_al X 0 dL_law_19 rfl rfl ?_
    refine g_slen X dL_law_20 ?_
    refine g_ic (v := 5) X dL_law_21 (by decide) ?_
    refine g_isub X dL_law_22 ?_
    intro H locs ls hP hD hS hl
    refine lv_icmp_gt (tgt := 1550) X.1.1 X.1.2.1 dL_law_23 (by decide) (fun _ => g_ret X dL_law_1550 dL_law_1551 (by decide) H locs ls hP hD hS hl) (fun h => ?_)
    have hi : i + 5 ≤ L := sub5 hL h1 h
    suffices hs : LQ l E p e s m below meth c b ad i 26 [] ws from hs H locs ls hP hD hS hl
    clear hl hS hD hP h ls locs H
    refine g_al X 0 dL_law_26 rfl rfl ?_
    refine g_il X 3 dL_law_27 rfl rfl ?_
    refine g_sld X dL_law_28 (vp_in_nI (by omega) (by omega)) ?_
    refine g_bp (v := 63) X dL_law_29 (by decide) ?_
    refine g_iand X dL_law_31 ?_
    obtain ⟨k, hk, ek⟩ := and63 (xs (nI i).toNatClampNeg)
    rw [ek]
    have K : ∀ ws', IV E ad ws' → LQ l E p e s m below meth c b ad i 1544 [] ws' := by
      intro ws' hI'
      refine g_inc (v := nI (i + 5)) (lv' := [(3, .int (nI (i + 5))), (0, .ref b), (1, .ref (ad 0)), (2, .ref (ad 44))]) X 3 dL_law_1544 rfl (nI_add i 5) (by decide) rfl ?_
      refine g_goto (tgt := 18) X dL_law_1547 (by decide) ?_
      refine g_lv (lv' := lvL b ad (i + 5)) [1, 2, 3, 0] rfl ?_
      exact ih (i + 5) ws' hi (by omega) hI'
    refine g_sw X hk (fun h43 => ?_) (K ws hI)
    rcases (show k = 0 ∨ k = 1 ∨ k = 2 ∨ k = 3 ∨ k = 4 ∨ k = 5 ∨ k = 6 ∨ k = 7 ∨ k = 8 ∨ k = 9 ∨ k = 10 ∨ k = 11 ∨ k = 12 ∨ k = 13 ∨ k = 14 ∨ k = 15 ∨ k = 16 ∨ k = 17 ∨ k = 18 ∨ k = 19 ∨ k = 20 ∨ k = 21 ∨ k = 22 ∨ k = 23 ∨ k = 24 ∨ k = 25 ∨ k = 26 ∨ k = 27 ∨ k = 28 ∨ k = 29 ∨ k = 30 ∨ k = 31 ∨ k = 32 ∨ k = 33 ∨ k = 34 ∨ k = 35 ∨ k = 36 ∨ k = 37 ∨ k = 38 ∨ k = 39 ∨ k = 40 ∨ k = 41 ∨ k = 42 by omega) with rfl | rfl | rfl | rfl | rfl | rfl | rfl | rfl | rfl | rfl | rfl | rfl | rfl | rfl | rfl | rfl | rfl | rfl | rfl | rfl | rfl | rfl | rfl | rfl | rfl | rfl | rfl | rfl | rfl | rfl | rfl | rfl | rfl | rfl | rfl | rfl | rfl | rfl | rfl | rfl | rfl | rfl | rfl
    · exact ca_feed X hL hi hI K
    · exact ca_end X hL hi hI K
    · exact ca_text X hL hi hI K
    · exact ca_fault X hL hi hI K
    · exact ca_rule X hL hi hI K
    · exact ca_law X hL hi hI K
    · exact ca_worth X hL hi hI K
    · exact ca_write X hL hi hI K
    · exact ca_home X hL hi hI K
    · exact ca_stop X hL hi hI K
    · exact ca_need X hL hi hI K
    · exact ca_bar X hL hi hI K
    · exact ca_pay X hL hi hI K
    · exact ca_cut X hL hi hI K
    · exact ca_brings X hL hi hI K
    · exact ca_day X hL hi hI K
    · exact ca_round X hL hi hI K
    · exact ca_days X hL hi hI K
    · exact ca_first X hL hi hI K
    · exact ca_less X hL hi hI K
    · exact ca_begins X hL hi hI K
    · exact ca_pure X hL hi hI K
    · exact ca_wrote X hL hi hI K
    · exact ca_could X hL hi hI K
    · exact ca_fewest X hL hi hI K
    · exact ca_police X hL hi hI K
    · exact ca_comes X hL hi hI K
    · exact ca_richest X hL hi hI K
    · exact ca_odds X hL hi hI K
    · exact ca_none X hL hi hI K
    · exact ca_mean X hL hi hI K
    · exact ca_see X hL hi hI K
    · exact ca_forget X hL hi hI K
    · exact ca_fits X hL hi hI K
    · exact ca_ask X hL hi hI K
    · exact ca_drift X hL hi hI K
    · exact ca_keep X hL hi hI K
    · exact ca_back X hL hi hI K
    · exact ca_sheet X hL hi hI K
    · exact ca_lay X hL hi hI K
    · exact ca_read X hL hi hI K
    · exact ca_torn X hL hi hI K
    · exact ca_count X hL hi hI K
