/-! ===== steps ===== -/
theorem st_text (l : Launch) {E : VE} {ad : Nat → Nat} {ws : va_W} (hI : IV E ad ws)  : Cl l E yX4_text cX4_text 3 (Option.some FieldType.int) 4 (ad 0) [] ws (fun v w1 => Cl l E yX5_text cX5_text 3 (Option.some FieldType.int) 5 (ad 44) [] w1 (fun v' w2 => v' = v ∧ (∃ x : Int32, v = some (.int x)) ∧ IV E ad w2)) := by
  obtain ⟨nq, wq, sq2, uq, Fq, hf, bg, rfl, hRN, hRS, hIA, hIB, hZ, hr0, hr1, hr2, hr3, hT, hC, hn1, hn6, hp1, hp4, hrl, h38, h39, h40, h41, h42, hTd, hWo, hRU, hWr, hse, hsn, hz0, hl0, ela0, hlg0, hrf0, hz1, hl1, ela1, hlg1, hrf1, hz2, hl2, ela2, hlg2, hrf2, hz3, hl3, ela3, hlg3, hrf3, htl, hby, hcf, hlf⟩ := hI.op
  by_cases hfl : fltL (lnAll (Fq 16) (nq 9) (nq 9 + 1) 0 (PS.mk 0 0 0 0 0 0 0 0 3 2 (Fq 17) (Fq 18) (Fq 19) (Fq 20) (fillI (Fq 21) 0 6)) 0) = 0
  · refine Cl.of [0, 24, 31, 25, 26, 27, 28, 29, 30, 1, 2, 3, 4, 5, 6, 20] 0 (c_X4_text l E (ad 0) (ad 7) (ad 20) (ad 24) (ad 32) (ad 33) (ad 34) (ad 43) (nq 17) (uq 40) (ad 21) (ad 1) (ad 2) (ad 3) (ad 4) (ad 5) (ad 6) (nq 0) (nq 1) (nq 2) (uq 3) (uq 4) (uq 5) (uq 6) (Fq 0) (Fq 1) (Fq 2) (Fq 3) (Fq 4) (Fq 15) (ad 25) (ad 31) (nq 9) (nq 10) (nq 11) (uq 22) (uq 23) (uq 25) (uq 27) (uq 28) (uq 29) (uq 30) (uq 31) (Fq 16) (ad 26) (ad 27) (ad 28) (ad 29) (ad 30) (nq 12) (nq 13) (nq 14) (uq 35) (uq 36) (uq 37) (uq 38) (Fq 17) (Fq 18) (Fq 19) (Fq 20) (Fq 21) htl hfl) (by decide) rfl (by decide) rfl ?_
    rintro _ _ ⟨tf_1, tp_1, tx_1, tk_1, ts_1, tv_1, th_1, tN_1, tO_1, tpd_1, hm_1, sp_1, td_1, rl_1, kn_1, kp_1, on_1, wr_1, nd_1, br_1, wo_1, rfl, rfl, hf1_0, hf1_1⟩
    refine ⟨rfl, ?_⟩
    refine Cl.of [44, 47, 46, 48, 49, 45, 51] 44 (c_X5_text l E (ad 44) (ad 45) (ad 46) (ad 47) (ad 48) (ad 49) (ad 50) (ad 51) (ad 52) (ad 53) (ad 54) (nq 0) (nq 1) (nq 9) (nq 17) 255 (uq 51) (uq 52) (uq 53) (uq 54) (uq 55) (uq 56) (uq 22) (uq 59) (uq 60) (uq 63) (uq 64) (uq 40) (Fq 29) (nq 15) (nq 16) (Fq 16) (Fq 17) (Fq 18) (Fq 19) (Fq 20) (Fq 21) (Fq 32) (Fq 33) (Fq 30) (Fq 15) htl hby hcf hlf hfl) (by decide) rfl (by decide) rfl ?_
    rintro _ _ ⟨bk_2, ba_2, sp_2, he_2, to_2, va_2, wt_2, hn_2, ho_2, rn_2, ro_2, tc_2, pg_2, fa_2, f_2, rfl, rfl, hf2_0, hf2_1, hf2_2, hf2_3, hf2_4, hf2_5⟩
    refine ⟨rfl, ?_⟩
    have hw := end_w hf2_3 (all_CV _ _ _ _ (Nat.zero_le _) GS_0 (fun k hk => absurd (show k < 0 from hk) (by omega))) (flt_end hfl)
    refine ⟨?_, ⟨_, rfl⟩, ?_⟩
    · rfl
    · exact IV.mk (hRN.text hf1_1 hf2_3 hf2_1 hf2_2) (RS.text hf1_1 hf2_3 hf2_4 hf2_5 hw) (RIm.no hIA.1 (by rw [pk_un (by decide), pk_us]; rfl)) (RIm.no hIB.1 (by rw [pk_us]; rfl)) hZ.text hr0 hr1 hr2 hr3 hT.text (hC.tx (by rw [hf1_0, hf2_0]))
  · refine Cl.of [0, 24, 31, 25, 26, 27, 28, 29, 30, 1, 2, 3, 4, 5, 6, 20] 0 (cB_X4_text l E (ad 0) (ad 7) (ad 20) (ad 24) (ad 32) (ad 33) (ad 34) (ad 43) (nq 17) (uq 40) (ad 21) (ad 1) (ad 2) (ad 3) (ad 4) (ad 5) (ad 6) (nq 0) (nq 1) (nq 2) (uq 3) (uq 4) (uq 5) (uq 6) (Fq 0) (Fq 1) (Fq 2) (Fq 3) (Fq 4) (Fq 15) (ad 25) (ad 31) (nq 9) (nq 10) (nq 11) (uq 22) (uq 23) (uq 25) (uq 27) (uq 28) (uq 29) (uq 30) (uq 31) (Fq 16) (ad 26) (ad 27) (ad 28) (ad 29) (ad 30) (nq 12) (nq 13) (nq 14) (uq 35) (uq 36) (uq 37) (uq 38) (Fq 17) (Fq 18) (Fq 19) (Fq 20) (Fq 21) htl hfl) (by decide) rfl (by decide) rfl ?_
    rintro _ _ ⟨tf_1, tp_1, tx_1, tk_1, ts_1, tv_1, th_1, tN_1, tO_1, tpd_1, hm_1, sp_1, td_1, rl_1, kn_1, kp_1, on_1, wr_1, nd_1, br_1, wo_1, rfl, rfl, hf1_0⟩
    refine ⟨rfl, ?_⟩
    refine Cl.of [44, 47, 46, 48, 49, 45, 51] 44 (cB_X5_text l E (ad 44) (ad 45) (ad 46) (ad 47) (ad 48) (ad 49) (ad 50) (ad 51) (ad 52) (ad 53) (ad 54) (nq 0) (nq 1) (nq 9) (nq 17) 255 (uq 51) (uq 52) (uq 53) (uq 54) (uq 55) (uq 56) (uq 22) (uq 59) (uq 60) (uq 63) (uq 64) (uq 40) (Fq 29) (nq 15) (nq 16) (Fq 16) (Fq 17) (Fq 18) (Fq 19) (Fq 20) (Fq 21) (Fq 32) (Fq 33) (Fq 30) (Fq 15) htl hby hcf hlf hfl) (by decide) rfl (by decide) rfl ?_
    rintro _ _ ⟨bk_2, ba_2, sp_2, he_2, to_2, va_2, wt_2, hn_2, ho_2, rn_2, ro_2, tc_2, pg_2, fa_2, rfl, rfl, hf2_0⟩
    refine ⟨rfl, ?_⟩
    refine ⟨?_, ⟨_, rfl⟩, ?_⟩
    · rfl
    · exact IV.mk hRN hRS hIA hIB hZ hr0 hr1 hr2 hr3 hT.text (hC.tb (by rw [hf1_0, hf2_0]))
