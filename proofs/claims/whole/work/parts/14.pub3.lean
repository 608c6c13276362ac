def kcN (kp : Nat → Int32) : Nat → Nat
  | 0 => 0
  | n + 1 => kcN kp n + if kp n = 0 then 0 else 1
def rdC (sz : Nat) (rf : Nat → Int32) (i : Int32) : Int32 := if okN i sz then rf i.toNatClampNeg else 0
def rdF (la : Int32) (sz : Nat) (rf : Nat → Int32) (nt : Nat) (sp lane f : Int32) : Nat → Nat → Int32 → Int32 × Option (Int32 × Int32)
  | 0, came, s => (nI came, some (s, 0))
  | k + 1, came, s => if fltP la (nI sz) lane (f + 2 * nI came) = 0 then
      (if rdC sz rf (f + 2 * nI came + 1) = 0 ∨ rdC sz rf (f + 2 * nI came + 1) = 1 then
        (if refu nt sp (rdC sz rf (f + 2 * nI came)) (rdC sz rf (f + 2 * nI came + 1) = 1) = 0 then rdF la sz rf nt sp lane f k (came + 1) (wb s (rdC sz rf (f + 2 * nI came)) (rdC sz rf (f + 2 * nI came + 1) = 1)) else (-20 - nI came, none))
       else (-20 - nI came, none))
    else (nI came, some (s, fltP la (nI sz) lane (f + 2 * nI came)))
theorem sh4 {j b : Nat} (h : j < b) (hb : b < 2 ^ 31) : ¬ nI j < 0 ∧ ¬ nI b ≤ nI j := ⟨nI_pos (by omega), nI_ge h hb⟩
theorem c_X4_odds (l : Launch) (E : VE) (y0 : Nat) (yi : Nat) (yk : Nat) (t0 : Nat) (yn : Nat) (yt : Nat) (ys : Nat) (ym : Nat) (se : Nat) (tn : Int32) (l0 : Nat) (lh : Nat) (lb : Nat) (a0 : Nat) (ao : Nat) (aw : Nat) (an : Nat) (ab : Nat) (av : Nat) (nt : Nat) (pp : Nat) (rl : Nat) (hm : Int32) (sp : Int32) (td : Int32) (dt : Int32) (on : Nat → Int32) (wr : Nat → Int32) (nd : Nat → Int32) (br : Nat → Int32) (hf : Nat → Int64) (bg : Nat → Int64) (x : Int32) (n : Int32) (wh : Int32) (w : Nat → Nat) (h_rl : rl ≤ 8) (h_nt : nt ≤ 6) (h_wr : ∀ k, k < rl → wr k = nI (w k) ∧ w k < 6) : Ct l E yX4_odds cX4_odds 4 (Option.some FieldType.long) 4 98 0 0 [.ref y0, .int (x), .int (n), .int (wh)] [(y0, .inr (4, [.ref a0, .ref yi, .ref yk, .ref l0, .ref t0, .ref yn, .ref yt, .int (nI se), .ref ys, .int (tn), .ref ym])), (l0, .inr (0, [.ref lh, .ref lb])), (lh, .inl (E.2.1 2, 8, .inr (.inl (hf)))), (lb, .inl (E.2.1 2, 6, .inr (.inl (bg)))), (a0, .inr (2, [.int (nI nt), .int (nI pp), .int (nI rl), .int (hm), .int (sp), .int (td), .int (dt), .ref ao, .ref aw, .ref an, .ref ab, .ref av])), (ao, .inl (E.2.1 1, 8, .inl (on))), (aw, .inl (E.2.1 1, 8, .inl (wr))), (an, .inl (E.2.1 1, 8, .inl (nd))), (ab, .inl (E.2.1 1, 8, .inl (br)))] (RtE2 (some (.long (if okN n nt then expR nt rl w sp hm on nd br x 0 n.toNatClampNeg wh else -1))) (fun (hf_ : Nat → Int64) (bg_ : Nat → Int64) => [(y0, .inr (4, [.ref a0, .ref yi, .ref yk, .ref l0, .ref t0, .ref yn, .ref yt, .int (nI se), .ref ys, .int (tn), .ref ym])), (l0, .inr (0, [.ref lh, .ref lb])), (lh, .inl (E.2.1 2, 8, .inr (.inl (hf_)))), (lb, .inl (E.2.1 2, 6, .inr (.inl (bg_)))), (a0, .inr (2, [.int (nI nt), .int (nI pp), .int (nI rl), .int (hm), .int (sp), .int (td), .int (dt), .ref ao, .ref aw, .ref an, .ref ab, .ref av])), (ao, .inl (E.2.1 1, 8, .inl (on))), (aw, .inl (E.2.1 1, 8, .inl (wr))), (an, .inl (E.2.1 1, 8, .inl (nd))), (ab, .inl (E.2.1 1, 8, .inl (br)))])) := by
  refine Ct.of (own := RX4) (nm := "odds") (lv := [(0, .ref y0), (1, .int (x)), (2, .int (n)), (3, .int (wh))]) (by decide) rfl rfl (Nat.le_of_ble_eq_true rfl) rfl ?_
  refine v_aload_n (pc := 0) 0 dX4_odds_0 rfl rfl ?_
  refine gf_240 (pc := 1) 0 dX4_odds_1 rfl rfl ?_
  refine v_iload_n (pc := 4) 2 dX4_odds_4 rfl rfl ?_
  refine v_callV (pc := 5) (rest := []) [4] 4 lk_462 (c_X2_hasNote l E a0 ao aw an ab av nt pp rl hm sp td dt n) dX4_odds_5 rfl rfl (Nat.le_of_ble_eq_true rfl) (by decide) rfl rfl rfl (by decide) rfl (Rt.len rfl) (Rt.go ?_)
  refine v_w (ws' := [(y0, .inr (4, [.ref a0, .ref yi, .ref yk, .ref l0, .ref t0, .ref yn, .ref yt, .int (nI se), .ref ys, .int (tn), .ref ym])), (l0, .inr (0, [.ref lh, .ref lb])), (lh, .inl (E.2.1 2, 8, .inr (.inl (hf)))), (lb, .inl (E.2.1 2, 6, .inr (.inl (bg)))), (a0, .inr (2, [.int (nI nt), .int (nI pp), .int (nI rl), .int (hm), .int (sp), .int (td), .int (dt), .ref ao, .ref aw, .ref an, .ref ab, .ref av])), (ao, .inl (E.2.1 1, 8, .inl (on))), (aw, .inl (E.2.1 1, 8, .inl (wr))), (an, .inl (E.2.1 1, 8, .inl (nd))), (ab, .inl (E.2.1 1, 8, .inl (br)))]) rfl ?_
  refine v_st (st' := [.int (if okN n nt then 1 else 0)]) rfl ?_
  refine v_ifB_eq (pc := 8) 22 dX4_odds_8 (by decide) (fun c_8 => ?_) (fun c_8 => ?_)
  · skip
    refine v_ldc2 (pc := 22) dX4_odds_22 tb_585 ?_
    refine v_lret (pc := 25) dX4_odds_25 rfl ⟨rfl, rfl⟩ (RtE2.l (hf) (bg) ?_ ?_)
    · skip
      rw [if_neg c_8]
    · skip
      rfl
  · skip
    obtain ⟨j, hj, rfl⟩ := okN_ex c_8 (by omega)
    have hjc : (nI j).toNatClampNeg = j := nI_clamp (by omega)
    refine v_aload_n (pc := 11) 0 dX4_odds_11 rfl rfl ?_
    refine v_iload_n (pc := 12) 1 dX4_odds_12 rfl rfl ?_
    refine v_iconst (pc := 13) (v := 0) dX4_odds_13 (by decide) ?_
    refine v_iload_n (pc := 14) 2 dX4_odds_14 rfl rfl ?_
    refine v_iload_n (pc := 15) 3 dX4_odds_15 rfl rfl ?_
    refine v_callV (pc := 16) (rest := []) [0, 1, 2, 3, 4, 5, 6, 7, 8] 0 lk_666 (c_X4_expected l E y0 yi yk t0 yn yt ys ym se tn l0 lh lb a0 ao aw an ab av nt pp rl hm sp td dt on wr nd br hf bg x 0 wh j w (by first | assumption | omega) (by first | assumption | omega) (by first | assumption | omega) (by first | assumption | omega)) dX4_odds_16 rfl rfl (Nat.le_of_ble_eq_true rfl) (by decide) rfl rfl rfl (by decide) rfl (RtE2.len (fun _ _ => rfl)) (RtE2.go (fun hf_16 bg_16 => ?_))
    refine v_w (ws' := [(y0, .inr (4, [.ref a0, .ref yi, .ref yk, .ref l0, .ref t0, .ref yn, .ref yt, .int (nI se), .ref ys, .int (tn), .ref ym])), (l0, .inr (0, [.ref lh, .ref lb])), (lh, .inl (E.2.1 2, 8, .inr (.inl (hf_16)))), (lb, .inl (E.2.1 2, 6, .inr (.inl (bg_16)))), (a0, .inr (2, [.int (nI nt), .int (nI pp), .int (nI rl), .int (hm), .int (sp), .int (td), .int (dt), .ref ao, .ref aw, .ref an, .ref ab, .ref av])), (ao, .inl (E.2.1 1, 8, .inl (on))), (aw, .inl (E.2.1 1, 8, .inl (wr))), (an, .inl (E.2.1 1, 8, .inl (nd))), (ab, .inl (E.2.1 1, 8, .inl (br)))]) rfl ?_
    refine v_st (st' := [.long (expR nt rl w sp hm on nd br x 0 j wh)]) rfl ?_
    refine v_goto (pc := 19) 25 dX4_odds_19 (by decide) ?_
    refine v_lret (pc := 25) dX4_odds_25 rfl ⟨rfl, rfl⟩ (RtE2.l (hf_16) (bg_16) ?_ ?_)
    · skip
      rw [if_pos c_8, hjc]
    · skip
      rfl
theorem c_X4_none (l : Launch) (E : VE) (y0 : Nat) (yi : Nat) (yk : Nat) (t0 : Nat) (yn : Nat) (yt : Nat) (ys : Nat) (ym : Nat) (se : Nat) (tn : Int32) (l0 : Nat) (lh : Nat) (lb : Nat) (a0 : Nat) (ao : Nat) (aw : Nat) (an : Nat) (ab : Nat) (av : Nat) (nt : Nat) (pp : Nat) (rl : Nat) (hm : Int32) (sp : Int32) (td : Int32) (dt : Int32) (on : Nat → Int32) (wr : Nat → Int32) (nd : Nat → Int32) (br : Nat → Int32) (hf : Nat → Int64) (bg : Nat → Int64) (x : Int32) (wh : Int32) (w : Nat → Nat) (h_rl : rl ≤ 8) (h_nt : nt ≤ 6) (h_wr : ∀ k, k < rl → wr k = nI (w k) ∧ w k < 6) : Ct l E yX4_none cX4_none 3 (Option.some FieldType.long) 4 98 0 0 [.ref y0, .int (x), .int (wh)] [(y0, .inr (4, [.ref a0, .ref yi, .ref yk, .ref l0, .ref t0, .ref yn, .ref yt, .int (nI se), .ref ys, .int (tn), .ref ym])), (l0, .inr (0, [.ref lh, .ref lb])), (lh, .inl (E.2.1 2, 8, .inr (.inl (hf)))), (lb, .inl (E.2.1 2, 6, .inr (.inl (bg)))), (a0, .inr (2, [.int (nI nt), .int (nI pp), .int (nI rl), .int (hm), .int (sp), .int (td), .int (dt), .ref ao, .ref aw, .ref an, .ref ab, .ref av])), (ao, .inl (E.2.1 1, 8, .inl (on))), (aw, .inl (E.2.1 1, 8, .inl (wr))), (an, .inl (E.2.1 1, 8, .inl (nd))), (ab, .inl (E.2.1 1, 8, .inl (br)))] (RtE2 (some (.long (expR nt rl w sp hm on nd br x 1 0 wh))) (fun (hf_ : Nat → Int64) (bg_ : Nat → Int64) => [(y0, .inr (4, [.ref a0, .ref yi, .ref yk, .ref l0, .ref t0, .ref yn, .ref yt, .int (nI se), .ref ys, .int (tn), .ref ym])), (l0, .inr (0, [.ref lh, .ref lb])), (lh, .inl (E.2.1 2, 8, .inr (.inl (hf_)))), (lb, .inl (E.2.1 2, 6, .inr (.inl (bg_)))), (a0, .inr (2, [.int (nI nt), .int (nI pp), .int (nI rl), .int (hm), .int (sp), .int (td), .int (dt), .ref ao, .ref aw, .ref an, .ref ab, .ref av])), (ao, .inl (E.2.1 1, 8, .inl (on))), (aw, .inl (E.2.1 1, 8, .inl (wr))), (an, .inl (E.2.1 1, 8, .inl (nd))), (ab, .inl (E.2.1 1, 8, .inl (br)))])) := by
  refine Ct.of (own := RX4) (nm := "none") (lv := [(0, .ref y0), (1, .int (x)), (2, .int (wh))]) (by decide) rfl rfl (Nat.le_of_ble_eq_true rfl) rfl ?_
  refine v_aload_n (pc := 0) 0 dX4_none_0 rfl rfl ?_
  refine v_iload_n (pc := 1) 1 dX4_none_1 rfl rfl ?_
  refine v_iconst (pc := 2) (v := 1) dX4_none_2 (by decide) ?_
  refine v_iconst (pc := 3) (v := 0) dX4_none_3 (by decide) ?_
  refine v_iload_n (pc := 4) 2 dX4_none_4 rfl rfl ?_
  refine v_callV (pc := 5) (rest := []) [0, 1, 2, 3, 4, 5, 6, 7, 8] 0 lk_666 (c_X4_expected l E y0 yi yk t0 yn yt ys ym se tn l0 lh lb a0 ao aw an ab av nt pp rl hm sp td dt on wr nd br hf bg x 1 wh 0 w (by first | assumption | omega) (by first | assumption | omega) (by first | assumption | omega) (by first | assumption | omega)) dX4_none_5 rfl rfl (Nat.le_of_ble_eq_true rfl) (by decide) rfl rfl rfl (by decide) rfl (RtE2.len (fun _ _ => rfl)) (RtE2.go (fun hf_5 bg_5 => ?_))
  refine v_w (ws' := [(y0, .inr (4, [.ref a0, .ref yi, .ref yk, .ref l0, .ref t0, .ref yn, .ref yt, .int (nI se), .ref ys, .int (tn), .ref ym])), (l0, .inr (0, [.ref lh, .ref lb])), (lh, .inl (E.2.1 2, 8, .inr (.inl (hf_5)))), (lb, .inl (E.2.1 2, 6, .inr (.inl (bg_5)))), (a0, .inr (2, [.int (nI nt), .int (nI pp), .int (nI rl), .int (hm), .int (sp), .int (td), .int (dt), .ref ao, .ref aw, .ref an, .ref ab, .ref av])), (ao, .inl (E.2.1 1, 8, .inl (on))), (aw, .inl (E.2.1 1, 8, .inl (wr))), (an, .inl (E.2.1 1, 8, .inl (nd))), (ab, .inl (E.2.1 1, 8, .inl (br)))]) rfl ?_
  refine v_st (st' := [.long (expR nt rl w sp hm on nd br x 1 0 wh)]) rfl ?_
  refine v_lret (pc := 8) dX4_none_8 rfl ⟨rfl, rfl⟩ (RtE2.l (hf_5) (bg_5) ?_ ?_)
  · skip
    rfl
  · skip
    rfl
theorem c_X4_mean (l : Launch) (E : VE) (y0 : Nat) (yi : Nat) (yk : Nat) (t0 : Nat) (yn : Nat) (yt : Nat) (ys : Nat) (ym : Nat) (se : Nat) (tn : Int32) (l0 : Nat) (lh : Nat) (lb : Nat) (a0 : Nat) (ao : Nat) (aw : Nat) (an : Nat) (ab : Nat) (av : Nat) (nt : Nat) (pp : Nat) (rl : Nat) (hm : Int32) (sp : Int32) (td : Int32) (dt : Int32) (on : Nat → Int32) (wr : Nat → Int32) (nd : Nat → Int32) (br : Nat → Int32) (hf : Nat → Int64) (bg : Nat → Int64) (x : Int32) (wh : Int32) (w : Nat → Nat) (h_rl : rl ≤ 8) (h_nt : nt ≤ 6) (h_wr : ∀ k, k < rl → wr k = nI (w k) ∧ w k < 6) : Ct l E yX4_mean cX4_mean 3 (Option.some FieldType.long) 4 98 0 0 [.ref y0, .int (x), .int (wh)] [(y0, .inr (4, [.ref a0, .ref yi, .ref yk, .ref l0, .ref t0, .ref yn, .ref yt, .int (nI se), .ref ys, .int (tn), .ref ym])), (l0, .inr (0, [.ref lh, .ref lb])), (lh, .inl (E.2.1 2, 8, .inr (.inl (hf)))), (lb, .inl (E.2.1 2, 6, .inr (.inl (bg)))), (a0, .inr (2, [.int (nI nt), .int (nI pp), .int (nI rl), .int (hm), .int (sp), .int (td), .int (dt), .ref ao, .ref aw, .ref an, .ref ab, .ref av])), (ao, .inl (E.2.1 1, 8, .inl (on))), (aw, .inl (E.2.1 1, 8, .inl (wr))), (an, .inl (E.2.1 1, 8, .inl (nd))), (ab, .inl (E.2.1 1, 8, .inl (br)))] (RtE2 (some (.long (expR nt rl w sp hm on nd br x 2 0 wh))) (fun (hf_ : Nat → Int64) (bg_ : Nat → Int64) => [(y0, .inr (4, [.ref a0, .ref yi, .ref yk, .ref l0, .ref t0, .ref yn, .ref yt, .int (nI se), .ref ys, .int (tn), .ref ym])), (l0, .inr (0, [.ref lh, .ref lb])), (lh, .inl (E.2.1 2, 8, .inr (.inl (hf_)))), (lb, .inl (E.2.1 2, 6, .inr (.inl (bg_)))), (a0, .inr (2, [.int (nI nt), .int (nI pp), .int (nI rl), .int (hm), .int (sp), .int (td), .int (dt), .ref ao, .ref aw, .ref an, .ref ab, .ref av])), (ao, .inl (E.2.1 1, 8, .inl (on))), (aw, .inl (E.2.1 1, 8, .inl (wr))), (an, .inl (E.2.1 1, 8, .inl (nd))), (ab, .inl (E.2.1 1, 8, .inl (br)))])) := by
  refine Ct.of (own := RX4) (nm := "mean") (lv := [(0, .ref y0), (1, .int (x)), (2, .int (wh))]) (by decide) rfl rfl (Nat.le_of_ble_eq_true rfl) rfl ?_
  refine v_aload_n (pc := 0) 0 dX4_mean_0 rfl rfl ?_
  refine v_iload_n (pc := 1) 1 dX4_mean_1 rfl rfl ?_
  refine v_iconst (pc := 2) (v := 2) dX4_mean_2 (by decide) ?_
  refine v_iconst (pc := 3) (v := 0) dX4_mean_3 (by decide) ?_
  refine v_iload_n (pc := 4) 2 dX4_mean_4 rfl rfl ?_
  refine v_callV (pc := 5) (rest := []) [0, 1, 2, 3, 4, 5, 6, 7, 8] 0 lk_666 (c_X4_expected l E y0 yi yk t0 yn yt ys ym se tn l0 lh lb a0 ao aw an ab av nt pp rl hm sp td dt on wr nd br hf bg x 2 wh 0 w (by first | assumption | omega) (by first | assumption | omega) (by first | assumption | omega) (by first | assumption | omega)) dX4_mean_5 rfl rfl (Nat.le_of_ble_eq_true rfl) (by decide) rfl rfl rfl (by decide) rfl (RtE2.len (fun _ _ => rfl)) (RtE2.go (fun hf_5 bg_5 => ?_))
  refine v_w (ws' := [(y0, .inr (4, [.ref a0, .ref yi, .ref yk, .ref l0, .ref t0, .ref yn, .ref yt, .int (nI se), .ref ys, .int (tn), .ref ym])), (l0, .inr (0, [.ref lh, .ref lb])), (lh, .inl (E.2.1 2, 8, .inr (.inl (hf_5)))), (lb, .inl (E.2.1 2, 6, .inr (.inl (bg_5)))), (a0, .inr (2, [.int (nI nt), .int (nI pp), .int (nI rl), .int (hm), .int (sp), .int (td), .int (dt), .ref ao, .ref aw, .ref an, .ref ab, .ref av])), (ao, .inl (E.2.1 1, 8, .inl (on))), (aw, .inl (E.2.1 1, 8, .inl (wr))), (an, .inl (E.2.1 1, 8, .inl (nd))), (ab, .inl (E.2.1 1, 8, .inl (br)))]) rfl ?_
  refine v_st (st' := [.long (expR nt rl w sp hm on nd br x 2 0 wh)]) rfl ?_
  refine v_lret (pc := 8) dX4_mean_8 rfl ⟨rfl, rfl⟩ (RtE2.l (hf_5) (bg_5) ?_ ?_)
  · skip
    rfl
  · skip
    rfl
theorem c_X4_see (l : Launch) (E : VE) (y0 : Nat) (yi : Nat) (yk : Nat) (t0 : Nat) (yn : Nat) (yt : Nat) (ys : Nat) (ym : Nat) (se : Nat) (tn : Int32) (l0 : Nat) (a0 : Nat) (ao : Nat) (aw : Nat) (an : Nat) (ab : Nat) (av : Nat) (nt : Nat) (pp : Nat) (rl : Nat) (hm : Int32) (sp : Int32) (td : Int32) (dt : Int32) (sn : Nat → Int32) (sh : Nat → Int32) (n : Int32) (P : Prop) (dP : Decidable P) (h_se : se ≤ 8) : Ct l E yX4_see cX4_see 3 (Option.some FieldType.int) 1 21 0 0 [.ref y0, .int (n), .int (if P then 1 else 0)] [(y0, .inr (4, [.ref a0, .ref yi, .ref yk, .ref l0, .ref t0, .ref yn, .ref yt, .int (nI se), .ref ys, .int (tn), .ref ym])), (a0, .inr (2, [.int (nI nt), .int (nI pp), .int (nI rl), .int (hm), .int (sp), .int (td), .int (dt), .ref ao, .ref aw, .ref an, .ref ab, .ref av])), (yn, .inl (E.2.1 1, 8, .inl (sn))), (yt, .inl (E.2.1 3, 8, .inl (sh)))] (Rt (some (.int (if okN n nt then (if se < 8 then nI (se + 1) else -3) else -1))) [(y0, .inr (4, [.ref a0, .ref yi, .ref yk, .ref l0, .ref t0, .ref yn, .ref yt, .int (if okN n nt then (if se < 8 then nI (se + 1) else nI se) else nI se), .ref ys, .int (tn), .ref ym])), (a0, .inr (2, [.int (nI nt), .int (nI pp), .int (nI rl), .int (hm), .int (sp), .int (td), .int (dt), .ref ao, .ref aw, .ref an, .ref ab, .ref av])), (yn, .inl (E.2.1 1, 8, .inl (if okN n nt then (if se < 8 then upd sn se n else sn) else sn))), (yt, .inl (E.2.1 3, 8, .inl (if okN n nt then (if se < 8 then upd sh se (vp_nar .boolean (if P then 1 else 0)) else sh) else sh)))]) := by
  refine Ct.of (own := RX4) (nm := "see") (lv := [(0, .ref y0), (1, .int (n)), (2, .int (if P then 1 else 0))]) (by decide) rfl rfl (Nat.le_of_ble_eq_true rfl) rfl ?_
  refine v_aload_n (pc := 0) 0 dX4_see_0 rfl rfl ?_
  refine gf_240 (pc := 1) 0 dX4_see_1 rfl rfl ?_
  refine v_iload_n (pc := 4) 1 dX4_see_4 rfl rfl ?_
  refine v_callV (pc := 5) (rest := []) [1] 1 lk_462 (c_X2_hasNote l E a0 ao aw an ab av nt pp rl hm sp td dt n) dX4_see_5 rfl rfl (Nat.le_of_ble_eq_true rfl) (by decide) rfl rfl rfl (by decide) rfl (Rt.len rfl) (Rt.go ?_)
  refine v_w (ws' := [(y0, .inr (4, [.ref a0, .ref yi, .ref yk, .ref l0, .ref t0, .ref yn, .ref yt, .int (nI se), .ref ys, .int (tn), .ref ym])), (a0, .inr (2, [.int (nI nt), .int (nI pp), .int (nI rl), .int (hm), .int (sp), .int (td), .int (dt), .ref ao, .ref aw, .ref an, .ref ab, .ref av])), (yn, .inl (E.2.1 1, 8, .inl (sn))), (yt, .inl (E.2.1 3, 8, .inl (sh)))]) rfl ?_
  refine v_st (st' := [.int (if okN n nt then 1 else 0)]) rfl ?_
  refine v_ifB_ne (pc := 8) 13 dX4_see_8 (by decide) (fun c_8 => ?_) (fun c_8 => ?_)
  · skip
    refine v_aload_n (pc := 13) 0 dX4_see_13 rfl rfl ?_
    refine gf_247 (pc := 14) 0 dX4_see_14 rfl rfl ?_
    refine v_bipush (pc := 17) (v := 8) dX4_see_17 (by decide) ?_
    refine v_cmpN_lt (pc := 19) (a := se) (b := 8) 25 dX4_see_19 (by decide) (by omega) (by omega) (fun c_19 => ?_) (fun c_19 => ?_)
    · skip
      refine v_aload_n (pc := 25) 0 dX4_see_25 rfl rfl ?_
      refine gf_245 (pc := 26) 0 dX4_see_26 rfl rfl ?_
      refine v_aload_n (pc := 29) 0 dX4_see_29 rfl rfl ?_
      refine gf_247 (pc := 30) 0 dX4_see_30 rfl rfl ?_
      refine v_iload_n (pc := 33) 1 dX4_see_33 rfl rfl ?_
      refine v_iastN (pc := 34) (ws' := [(y0, .inr (4, [.ref a0, .ref yi, .ref yk, .ref l0, .ref t0, .ref yn, .ref yt, .int (nI se), .ref ys, .int (tn), .ref ym])), (a0, .inr (2, [.int (nI nt), .int (nI pp), .int (nI rl), .int (hm), .int (sp), .int (td), .int (dt), .ref ao, .ref aw, .ref an, .ref ab, .ref av])), (yn, .inl (E.2.1 1, 8, .inl (upd (sn) (se) (n)))), (yt, .inl (E.2.1 3, 8, .inl (sh)))]) 2 1 (se) dX4_see_34 rfl rfl rfl (by omega) (by decide) rfl ?_
      refine v_aload_n (pc := 35) 0 dX4_see_35 rfl rfl ?_
      refine gf_246 (pc := 36) 0 dX4_see_36 rfl rfl ?_
      refine v_aload_n (pc := 39) 0 dX4_see_39 rfl rfl ?_
      refine gf_247 (pc := 40) 0 dX4_see_40 rfl rfl ?_
      refine v_iload_n (pc := 43) 2 dX4_see_43 rfl rfl ?_
      refine v_zastN (pc := 44) (ws' := [(y0, .inr (4, [.ref a0, .ref yi, .ref yk, .ref l0, .ref t0, .ref yn, .ref yt, .int (nI se), .ref ys, .int (tn), .ref ym])), (a0, .inr (2, [.int (nI nt), .int (nI pp), .int (nI rl), .int (hm), .int (sp), .int (td), .int (dt), .ref ao, .ref aw, .ref an, .ref ab, .ref av])), (yn, .inl (E.2.1 1, 8, .inl (upd (sn) (se) (n)))), (yt, .inl (E.2.1 3, 8, .inl (upd (sh) (se) (vp_nar .boolean (if P then 1 else 0)))))]) 3 3 (se) dX4_see_44 rfl rfl rfl (by omega) (by decide) rfl ?_
      refine v_aload_n (pc := 45) 0 dX4_see_45 rfl rfl ?_
      refine v_dup (pc := 46) dX4_see_46 rfl ?_
      refine gf_247 (pc := 47) 0 dX4_see_47 rfl rfl ?_
      refine v_iconst (pc := 50) (v := 1) dX4_see_50 (by decide) ?_
      refine v_iadd (pc := 51) dX4_see_51 ?_
      refine v_st (st' := [.int (nI (se + 1)), .ref y0]) (by rw [nI_1]) ?_
      refine pf_247 (pc := 52) (ws' := [(y0, .inr (4, [.ref a0, .ref yi, .ref yk, .ref l0, .ref t0, .ref yn, .ref yt, .int (nI (se + 1)), .ref ys, .int (tn), .ref ym])), (a0, .inr (2, [.int (nI nt), .int (nI pp), .int (nI rl), .int (hm), .int (sp), .int (td), .int (dt), .ref ao, .ref aw, .ref an, .ref ab, .ref av])), (yn, .inl (E.2.1 1, 8, .inl (upd (sn) (se) (n)))), (yt, .inl (E.2.1 3, 8, .inl (upd (sh) (se) (vp_nar .boolean (if P then 1 else 0)))))]) 0 dX4_see_52 rfl rfl rfl (Nat.le_of_ble_eq_true rfl) rfl ?_
      refine v_aload_n (pc := 55) 0 dX4_see_55 rfl rfl ?_
      refine gf_247 (pc := 56) 0 dX4_see_56 rfl rfl ?_
      refine v_iret (pc := 59) dX4_see_59 rfl ⟨rfl, rfl⟩ (Rt.i2 ?_ ?_)
      · skip
        first | simp only [if_pos c_8, if_pos c_19] | rfl
      · skip
        first | simp only [if_pos c_8, if_pos c_19] | rfl
    · skip
      refine v_bipush (pc := 22) (v := -3) dX4_see_22 (by decide) ?_
      refine v_iret (pc := 24) dX4_see_24 rfl ⟨rfl, rfl⟩ (Rt.i2 ?_ ?_)
      · skip
        simp only [if_pos c_8, if_neg (show ¬ se < 8 by omega)]
      · skip
        simp only [if_pos c_8, if_neg (show ¬ se < 8 by omega)]
  · skip
    refine v_iconst (pc := 11) (v := -1) dX4_see_11 (by decide) ?_
    refine v_iret (pc := 12) dX4_see_12 rfl ⟨rfl, rfl⟩ (Rt.i2 ?_ ?_)
    · skip
      first | simp only [if_neg c_8] | rfl
    · skip
      first | simp only [if_neg c_8] | rfl
theorem c_X4_forget (l : Launch) (E : VE) (y0 : Nat) (yi : Nat) (yk : Nat) (t0 : Nat) (yn : Nat) (yt : Nat) (ys : Nat) (ym : Nat) (se : Nat) (tn : Int32) (l0 : Nat) (a0 : Nat) (n : Int32) : Ct l E yX4_forget cX4_forget 3 (Option.some FieldType.int) 0 0 0 0 [.ref y0, .int (n)] [(y0, .inr (4, [.ref a0, .ref yi, .ref yk, .ref l0, .ref t0, .ref yn, .ref yt, .int (nI se), .ref ys, .int (tn), .ref ym]))] (Rt (some (.int (if n < 0 then -1 else if n ≤ nI se then nI se else -1))) [(y0, .inr (4, [.ref a0, .ref yi, .ref yk, .ref l0, .ref t0, .ref yn, .ref yt, .int (if n < 0 then nI se else if n ≤ nI se then n else nI se), .ref ys, .int (tn), .ref ym]))]) := by
  refine Ct.of (own := RX4) (nm := "forget") (lv := [(0, .ref y0), (1, .int (n))]) (by decide) rfl rfl (Nat.le_of_ble_eq_true rfl) rfl ?_
  refine v_iload_n (pc := 0) 1 dX4_forget_0 rfl rfl ?_
  refine v_if_lt (pc := 1) 12 dX4_forget_1 (by decide) (fun c_1 => ?_) (fun c_1 => ?_)
  · skip
    refine v_iconst (pc := 12) (v := -1) dX4_forget_12 (by decide) ?_
    refine v_iret (pc := 13) dX4_forget_13 rfl ⟨rfl, rfl⟩ (Rt.i2 ?_ ?_)
    · skip
      first | simp only [if_pos c_1] | rfl
    · skip
      first | simp only [if_pos c_1] | rfl
  · skip
    refine v_iload_n (pc := 4) 1 dX4_forget_4 rfl rfl ?_
    refine v_aload_n (pc := 5) 0 dX4_forget_5 rfl rfl ?_
    refine gf_247 (pc := 6) 0 dX4_forget_6 rfl rfl ?_
    refine v_icmp_le (pc := 9) 14 dX4_forget_9 (by decide) (fun c_9 => ?_) (fun c_9 => ?_)
    · skip
      refine v_aload_n (pc := 14) 0 dX4_forget_14 rfl rfl ?_
      refine gf_247 (pc := 15) 0 dX4_forget_15 rfl rfl ?_
      refine v_istore_n (pc := 18) (lv' := [(2, .int (nI se)), (0, .ref y0), (1, .int (n))]) dX4_forget_18 rfl (by decide) rfl ?_
      refine v_aload_n (pc := 19) 1 dX4_forget_19 rfl rfl ?_
      refine v_iload_n (pc := 20) 2 dX4_forget_20 rfl rfl ?_
      refine pf_247 (pc := 21) (ws' := [(y0, .inr (4, [.ref a0, .ref yi, .ref yk, .ref l0, .ref t0, .ref yn, .ref yt, .int (n), .ref ys, .int (tn), .ref ym]))]) 0 dX4_forget_21 rfl rfl rfl (Nat.le_of_ble_eq_true rfl) rfl ?_
      refine v_iload_n (pc := 24) 0 dX4_forget_24 rfl rfl ?_
      refine v_iret (pc := 25) dX4_forget_25 rfl ⟨rfl, rfl⟩ (Rt.i2 ?_ ?_)
      · skip
        first | simp only [if_neg c_1, if_pos c_9] | rfl
      · skip
        first | simp only [if_neg c_1, if_pos c_9] | rfl
    · skip
      refine v_iconst (pc := 12) (v := -1) dX4_forget_12 (by decide) ?_
      refine v_iret (pc := 13) dX4_forget_13 rfl ⟨rfl, rfl⟩ (Rt.i2 ?_ ?_)
      · skip
        first | simp only [if_neg c_1, if_neg c_9] | rfl
      · skip
        first | simp only [if_neg c_1, if_neg c_9] | rfl
theorem c_X4_fitting (l : Launch) (E : VE) (y0 : Nat) (yi : Nat) (yk : Nat) (t0 : Nat) (yn : Nat) (yt : Nat) (ys : Nat) (ym : Nat) (se : Nat) (tn : Int32) (l0 : Nat) (lh : Nat) (lb : Nat) (a0 : Nat) (ao : Nat) (aw : Nat) (an : Nat) (ab : Nat) (av : Nat) (nt : Nat) (pp : Nat) (rl : Nat) (hm : Int32) (sp : Int32) (td : Int32) (dt : Int32) (on : Nat → Int32) (wr : Nat → Int32) (nd : Nat → Int32) (br : Nat → Int32) (hf : Nat → Int64) (bg : Nat → Int64) (sn : Nat → Int32) (sh : Nat → Int32) (w : Nat → Nat) (h_rl : rl ≤ 8) (h_nt : nt ≤ 6) (h_wr : ∀ k, k < rl → wr k = nI (w k) ∧ w k < 6) (s2 : Nat → Nat) (h_se : se ≤ 8) (h_sn : ∀ j, j < se → sn j = nI (s2 j) ∧ s2 j < 6) : Ct l E yX4_fitting cX4_fitting 6 (Option.some FieldType.long) 4 90 0 0 [.ref y0] [(y0, .inr (4, [.ref a0, .ref yi, .ref yk, .ref l0, .ref t0, .ref yn, .ref yt, .int (nI se), .ref ys, .int (tn), .ref ym])), (l0, .inr (0, [.ref lh, .ref lb])), (lh, .inl (E.2.1 2, 8, .inr (.inl (hf)))), (lb, .inl (E.2.1 2, 6, .inr (.inl (bg)))), (a0, .inr (2, [.int (nI nt), .int (nI pp), .int (nI rl), .int (hm), .int (sp), .int (td), .int (dt), .ref ao, .ref aw, .ref an, .ref ab, .ref av])), (ao, .inl (E.2.1 1, 8, .inl (on))), (aw, .inl (E.2.1 1, 8, .inl (wr))), (an, .inl (E.2.1 1, 8, .inl (nd))), (ab, .inl (E.2.1 1, 8, .inl (br))), (yn, .inl (E.2.1 1, 8, .inl (sn))), (yt, .inl (E.2.1 3, 8, .inl (sh)))] (RtE2 (some (.long ((fitK s2 sh (ag nt rl w (nI (2 ^ rl - 1)) sp hm on nd br) se)))) (fun (hf_ : Nat → Int64) (bg_ : Nat → Int64) => [(y0, .inr (4, [.ref a0, .ref yi, .ref yk, .ref l0, .ref t0, .ref yn, .ref yt, .int (nI se), .ref ys, .int (tn), .ref ym])), (l0, .inr (0, [.ref lh, .ref lb])), (lh, .inl (E.2.1 2, 8, .inr (.inl (hf_)))), (lb, .inl (E.2.1 2, 6, .inr (.inl (bg_)))), (a0, .inr (2, [.int (nI nt), .int (nI pp), .int (nI rl), .int (hm), .int (sp), .int (td), .int (dt), .ref ao, .ref aw, .ref an, .ref ab, .ref av])), (ao, .inl (E.2.1 1, 8, .inl (on))), (aw, .inl (E.2.1 1, 8, .inl (wr))), (an, .inl (E.2.1 1, 8, .inl (nd))), (ab, .inl (E.2.1 1, 8, .inl (br))), (yn, .inl (E.2.1 1, 8, .inl (sn))), (yt, .inl (E.2.1 3, 8, .inl (sh)))])) := by
  refine Ct.of (own := RX4) (nm := "fitting") (lv := [(0, .ref y0)]) (by decide) rfl rfl (Nat.le_of_ble_eq_true rfl) rfl ?_
  refine v_aload_n (pc := 0) 0 dX4_fitting_0 rfl rfl ?_
  refine gf_243 (pc := 1) 0 dX4_fitting_1 rfl rfl ?_
  refine v_aload_n (pc := 4) 0 dX4_fitting_4 rfl rfl ?_
  refine gf_240 (pc := 5) 0 dX4_fitting_5 rfl rfl ?_
  refine v_callV (pc := 8) (rest := []) [1, 2, 3, 4, 5, 6, 7, 8] 1 lk_539 (c_X0_agreeingNow l E l0 lh lb a0 ao aw an ab av nt pp rl hm sp td dt on wr nd br hf bg w (by first | assumption | omega) (by first | assumption | omega) (by first | assumption | omega)) dX4_fitting_8 rfl rfl (Nat.le_of_ble_eq_true rfl) (by decide) rfl rfl rfl (by decide) rfl (RtE2.len (fun _ _ => rfl)) (RtE2.go (fun hf_8 bg_8 => ?_))
  refine v_w (ws' := [(y0, .inr (4, [.ref a0, .ref yi, .ref yk, .ref l0, .ref t0, .ref yn, .ref yt, .int (nI se), .ref ys, .int (tn), .ref ym])), (l0, .inr (0, [.ref lh, .ref lb])), (lh, .inl (E.2.1 2, 8, .inr (.inl (hf_8)))), (lb, .inl (E.2.1 2, 6, .inr (.inl (bg_8)))), (a0, .inr (2, [.int (nI nt), .int (nI pp), .int (nI rl), .int (hm), .int (sp), .int (td), .int (dt), .ref ao, .ref aw, .ref an, .ref ab, .ref av])), (ao, .inl (E.2.1 1, 8, .inl (on))), (aw, .inl (E.2.1 1, 8, .inl (wr))), (an, .inl (E.2.1 1, 8, .inl (nd))), (ab, .inl (E.2.1 1, 8, .inl (br))), (yn, .inl (E.2.1 1, 8, .inl (sn))), (yt, .inl (E.2.1 3, 8, .inl (sh)))]) rfl ?_
  refine v_st (st' := [.long (ag nt rl w (nI (2 ^ rl - 1)) sp hm on nd br)]) rfl ?_
  refine v_lstore_n (pc := 11) (lv' := [(1, .long (ag nt rl w (nI (2 ^ rl - 1)) sp hm on nd br)), (0, .ref y0)]) dX4_fitting_11 rfl (by decide) rfl ?_
  refine v_iconst (pc := 12) (v := 0) dX4_fitting_12 (by decide) ?_
  refine v_istore_n (pc := 13) (lv' := [(3, .int (0)), (1, .long (ag nt rl w (nI (2 ^ rl - 1)) sp hm on nd br)), (0, .ref y0)]) dX4_fitting_13 rfl (by decide) rfl ?_
  have loop_14 : ∀ (D_14 : Nat) (i : Nat) (acc : Int64), se - i < D_14 → (i ≤ se) → (acc = fitK s2 sh (ag nt rl w (nI (2 ^ rl - 1)) sp hm on nd br) i) → V l E RX4 cX4_fitting 6 (Option.some FieldType.long) "fitting" ({ frames := 4, cells := 0, slots := 0, locals := 90 }) [(y0, .inr (4, [.ref a0, .ref yi, .ref yk, .ref l0, .ref t0, .ref yn, .ref yt, .int (nI se), .ref ys, .int (tn), .ref ym])), (l0, .inr (0, [.ref lh, .ref lb])), (lh, .inl (E.2.1 2, 8, .inr (.inl (hf)))), (lb, .inl (E.2.1 2, 6, .inr (.inl (bg)))), (a0, .inr (2, [.int (nI nt), .int (nI pp), .int (nI rl), .int (hm), .int (sp), .int (td), .int (dt), .ref ao, .ref aw, .ref an, .ref ab, .ref av])), (ao, .inl (E.2.1 1, 8, .inl (on))), (aw, .inl (E.2.1 1, 8, .inl (wr))), (an, .inl (E.2.1 1, 8, .inl (nd))), (ab, .inl (E.2.1 1, 8, .inl (br))), (yn, .inl (E.2.1 1, 8, .inl (sn))), (yt, .inl (E.2.1 3, 8, .inl (sh)))] 0 0 (RtE2 (some (.long ((fitK s2 sh (ag nt rl w (nI (2 ^ rl - 1)) sp hm on nd br) se)))) (fun (hf_ : Nat → Int64) (bg_ : Nat → Int64) => [(y0, .inr (4, [.ref a0, .ref yi, .ref yk, .ref l0, .ref t0, .ref yn, .ref yt, .int (nI se), .ref ys, .int (tn), .ref ym])), (l0, .inr (0, [.ref lh, .ref lb])), (lh, .inl (E.2.1 2, 8, .inr (.inl (hf_)))), (lb, .inl (E.2.1 2, 6, .inr (.inl (bg_)))), (a0, .inr (2, [.int (nI nt), .int (nI pp), .int (nI rl), .int (hm), .int (sp), .int (td), .int (dt), .ref ao, .ref aw, .ref an, .ref ab, .ref av])), (ao, .inl (E.2.1 1, 8, .inl (on))), (aw, .inl (E.2.1 1, 8, .inl (wr))), (an, .inl (E.2.1 1, 8, .inl (nd))), (ab, .inl (E.2.1 1, 8, .inl (br))), (yn, .inl (E.2.1 1, 8, .inl (sn))), (yt, .inl (E.2.1 3, 8, .inl (sh)))])) 0 0 14 [(3, .int (nI i)), (1, .long (acc)), (0, .ref y0)] [] [(y0, .inr (4, [.ref a0, .ref yi, .ref yk, .ref l0, .ref t0, .ref yn, .ref yt, .int (nI se), .ref ys, .int (tn), .ref ym])), (l0, .inr (0, [.ref lh, .ref lb])), (lh, .inl (E.2.1 2, 8, .inr (.inl (hf_8)))), (lb, .inl (E.2.1 2, 6, .inr (.inl (bg_8)))), (a0, .inr (2, [.int (nI nt), .int (nI pp), .int (nI rl), .int (hm), .int (sp), .int (td), .int (dt), .ref ao, .ref aw, .ref an, .ref ab, .ref av])), (ao, .inl (E.2.1 1, 8, .inl (on))), (aw, .inl (E.2.1 1, 8, .inl (wr))), (an, .inl (E.2.1 1, 8, .inl (nd))), (ab, .inl (E.2.1 1, 8, .inl (br))), (yn, .inl (E.2.1 1, 8, .inl (sn))), (yt, .inl (E.2.1 3, 8, .inl (sh)))] := by
    intro D_14
    induction D_14 with
    | zero => intro i acc h; exact absurd h (Nat.not_lt_zero _)
    | succ D_14 ih_14 =>
      intro i acc hmu_14 h_14_0 h_14_1
      refine v_iload_n (pc := 14) 0 dX4_fitting_14 rfl rfl ?_
      refine v_aload_n (pc := 15) 2 dX4_fitting_15 rfl rfl ?_
      refine gf_247 (pc := 16) 0 dX4_fitting_16 rfl rfl ?_
      refine v_cmpN_ge (pc := 19) (a := i) (b := se) 63 dX4_fitting_19 (by decide) (by omega) (by omega) (fun c_19 => ?_) (fun c_19 => ?_)
      · skip
        refine v_lload_n (pc := 63) 1 dX4_fitting_63 rfl rfl ?_
        refine v_lret (pc := 64) dX4_fitting_64 rfl ⟨rfl, rfl⟩ (RtE2.l (hf_8) (bg_8) ?_ ?_)
        · skip
          obtain rfl : i = se := by omega
          exact h_14_1
        · skip
          rfl
      · skip
        refine v_gsHV (pc := 22) dX4_fitting_22 tb_584 ?_
        refine v_aload_n (pc := 25) 2 dX4_fitting_25 rfl rfl ?_
        refine gf_245 (pc := 26) 0 dX4_fitting_26 rfl rfl ?_
        refine v_iload_n (pc := 29) 0 dX4_fitting_29 rfl rfl ?_
        refine v_ialdN (pc := 30) 9 1 (i) dX4_fitting_30 rfl rfl rfl (by omega) (by decide) ?_
        refine v_st (st' := [.int (nI (s2 i)), .ref E.2.2.1]) (by rw [(h_sn i (by omega)).1]) ?_
        refine v_tlHVN (pc := 31) (s2 i) dX4_fitting_31 rfl (h_sn i (by omega)).2 ?_
        refine v_lstore (pc := 32) (lv' := [(4, .long (HVj (s2 i))), (3, .int (nI i)), (1, .long (acc)), (0, .ref y0)]) dX4_fitting_32 (by decide) rfl ?_
        refine v_lload_n (pc := 34) 2 dX4_fitting_34 rfl rfl ?_
        refine v_aload_n (pc := 35) 3 dX4_fitting_35 rfl rfl ?_
        refine gf_246 (pc := 36) 0 dX4_fitting_36 rfl rfl ?_
        refine v_iload_n (pc := 39) 1 dX4_fitting_39 rfl rfl ?_
        refine v_zaldN (pc := 40) 10 3 (i) dX4_fitting_40 rfl rfl rfl (by omega) (by decide) ?_
        suffices J_41 : V l E RX4 cX4_fitting 6 (Option.some FieldType.long) "fitting" ({ frames := 4, cells := 0, slots := 0, locals := 90 }) [(y0, .inr (4, [.ref a0, .ref yi, .ref yk, .ref l0, .ref t0, .ref yn, .ref yt, .int (nI se), .ref ys, .int (tn), .ref ym])), (l0, .inr (0, [.ref lh, .ref lb])), (lh, .inl (E.2.1 2, 8, .inr (.inl (hf)))), (lb, .inl (E.2.1 2, 6, .inr (.inl (bg)))), (a0, .inr (2, [.int (nI nt), .int (nI pp), .int (nI rl), .int (hm), .int (sp), .int (td), .int (dt), .ref ao, .ref aw, .ref an, .ref ab, .ref av])), (ao, .inl (E.2.1 1, 8, .inl (on))), (aw, .inl (E.2.1 1, 8, .inl (wr))), (an, .inl (E.2.1 1, 8, .inl (nd))), (ab, .inl (E.2.1 1, 8, .inl (br))), (yn, .inl (E.2.1 1, 8, .inl (sn))), (yt, .inl (E.2.1 3, 8, .inl (sh)))] 0 0 (RtE2 (some (.long ((fitK s2 sh (ag nt rl w (nI (2 ^ rl - 1)) sp hm on nd br) se)))) (fun (hf_ : Nat → Int64) (bg_ : Nat → Int64) => [(y0, .inr (4, [.ref a0, .ref yi, .ref yk, .ref l0, .ref t0, .ref yn, .ref yt, .int (nI se), .ref ys, .int (tn), .ref ym])), (l0, .inr (0, [.ref lh, .ref lb])), (lh, .inl (E.2.1 2, 8, .inr (.inl (hf_)))), (lb, .inl (E.2.1 2, 6, .inr (.inl (bg_)))), (a0, .inr (2, [.int (nI nt), .int (nI pp), .int (nI rl), .int (hm), .int (sp), .int (td), .int (dt), .ref ao, .ref aw, .ref an, .ref ab, .ref av])), (ao, .inl (E.2.1 1, 8, .inl (on))), (aw, .inl (E.2.1 1, 8, .inl (wr))), (an, .inl (E.2.1 1, 8, .inl (nd))), (ab, .inl (E.2.1 1, 8, .inl (br))), (yn, .inl (E.2.1 1, 8, .inl (sn))), (yt, .inl (E.2.1 3, 8, .inl (sh)))])) 0 0 55 [(4, .long (HVj (s2 i))), (3, .int (nI i)), (1, .long (acc)), (0, .ref y0)] [.long (if (sh i) = 0 then (HVj (s2 i)) ^^^ ((-1)) else HVj (s2 i)), .long (acc)] [(y0, .inr (4, [.ref a0, .ref yi, .ref yk, .ref l0, .ref t0, .ref yn, .ref yt, .int (nI se), .ref ys, .int (tn), .ref ym])), (l0, .inr (0, [.ref lh, .ref lb])), (lh, .inl (E.2.1 2, 8, .inr (.inl (hf_8)))), (lb, .inl (E.2.1 2, 6, .inr (.inl (bg_8)))), (a0, .inr (2, [.int (nI nt), .int (nI pp), .int (nI rl), .int (hm), .int (sp), .int (td), .int (dt), .ref ao, .ref aw, .ref an, .ref ab, .ref av])), (ao, .inl (E.2.1 1, 8, .inl (on))), (aw, .inl (E.2.1 1, 8, .inl (wr))), (an, .inl (E.2.1 1, 8, .inl (nd))), (ab, .inl (E.2.1 1, 8, .inl (br))), (yn, .inl (E.2.1 1, 8, .inl (sn))), (yt, .inl (E.2.1 3, 8, .inl (sh)))] by
          refine v_if_eq (pc := 41) 49 dX4_fitting_41 (by decide) (fun c_41 => ?_) (fun c_41 => ?_)
          · skip
            refine v_lload (pc := 49) 0 dX4_fitting_49 rfl ?_
            refine v_ldc2 (pc := 51) dX4_fitting_51 tb_585 ?_
            refine v_lxor (pc := 54) dX4_fitting_54 ?_
            refine v_st ?_ J_41
            rw [if_pos (show (sh i) = 0 from c_41)]
          · skip
            refine v_lload (pc := 44) 0 dX4_fitting_44 rfl ?_
            refine v_goto (pc := 46) 55 dX4_fitting_46 (by decide) ?_
            refine v_st ?_ J_41
            rw [if_neg (show ¬ ((sh i) = 0) from (by first | exact c_41 | omega | exact fun q => q c_41))]
        refine v_land (pc := 55) dX4_fitting_55 ?_
        refine v_lstore_n (pc := 56) (lv' := [(1, .long ((acc) &&& (if (sh i) = 0 then (HVj (s2 i)) ^^^ ((-1)) else HVj (s2 i)))), (4, .long (HVj (s2 i))), (3, .int (nI i)), (0, .ref y0)]) dX4_fitting_56 rfl (by decide) rfl ?_
        refine v_iinc (pc := 57) (v := nI (i + 1)) (lv' := [(3, .int (nI (i + 1))), (1, .long ((acc) &&& (if (sh i) = 0 then (HVj (s2 i)) ^^^ ((-1)) else HVj (s2 i)))), (4, .long (HVj (s2 i))), (0, .ref y0)]) 2 dX4_fitting_57 rfl (nI_inc (i) 1) (by decide) rfl ?_
        refine v_goto (pc := 60) 14 dX4_fitting_60 (by decide) ?_
        refine v_lv (lv' := [(3, .int (nI (i + 1))), (1, .long ((acc) &&& (if (sh i) = 0 then (HVj (s2 i)) ^^^ ((-1)) else HVj (s2 i)))), (0, .ref y0)]) [0, 1, 3] rfl ?_
        refine ih_14 (i + 1) ((acc) &&& (if (sh i) = 0 then (HVj (s2 i)) ^^^ ((-1)) else HVj (s2 i))) (by omega) ?_ ?_
        · omega
        · simp only [fitK]; rw [h_14_1]
  refine v_lv (lv' := [(3, .int (nI 0)), (1, .long (ag nt rl w (nI (2 ^ rl - 1)) sp hm on nd br)), (0, .ref y0)]) [0, 1, 2] rfl ?_
  refine loop_14 ((se - 0) + 1) 0 (ag nt rl w (nI (2 ^ rl - 1)) sp hm on nd br) (Nat.lt_succ_self _) ?_ ?_
  · omega
  · rfl
theorem c_X4_fits (l : Launch) (E : VE) (y0 : Nat) (yi : Nat) (yk : Nat) (t0 : Nat) (yn : Nat) (yt : Nat) (ys : Nat) (ym : Nat) (se : Nat) (tn : Int32) (l0 : Nat) (lh : Nat) (lb : Nat) (a0 : Nat) (ao : Nat) (aw : Nat) (an : Nat) (ab : Nat) (av : Nat) (nt : Nat) (pp : Nat) (rl : Nat) (hm : Int32) (sp : Int32) (td : Int32) (dt : Int32) (on : Nat → Int32) (wr : Nat → Int32) (nd : Nat → Int32) (br : Nat → Int32) (hf : Nat → Int64) (bg : Nat → Int64) (sn : Nat → Int32) (sh : Nat → Int32) (x : Int32) (w : Nat → Nat) (h_rl : rl ≤ 8) (h_nt : nt ≤ 6) (h_wr : ∀ k, k < rl → wr k = nI (w k) ∧ w k < 6) (s2 : Nat → Nat) (h_se : se ≤ 8) (h_sn : ∀ j, j < se → sn j = nI (s2 j) ∧ s2 j < 6) : Ct l E yX4_fits cX4_fits 4 (Option.some FieldType.int) 5 115 0 0 [.ref y0, .int (x)] [(y0, .inr (4, [.ref a0, .ref yi, .ref yk, .ref l0, .ref t0, .ref yn, .ref yt, .int (nI se), .ref ys, .int (tn), .ref ym])), (l0, .inr (0, [.ref lh, .ref lb])), (lh, .inl (E.2.1 2, 8, .inr (.inl (hf)))), (lb, .inl (E.2.1 2, 6, .inr (.inl (bg)))), (a0, .inr (2, [.int (nI nt), .int (nI pp), .int (nI rl), .int (hm), .int (sp), .int (td), .int (dt), .ref ao, .ref aw, .ref an, .ref ab, .ref av])), (ao, .inl (E.2.1 1, 8, .inl (on))), (aw, .inl (E.2.1 1, 8, .inl (wr))), (an, .inl (E.2.1 1, 8, .inl (nd))), (ab, .inl (E.2.1 1, 8, .inl (br))), (yn, .inl (E.2.1 1, 8, .inl (sn))), (yt, .inl (E.2.1 3, 8, .inl (sh)))] (RtE2 (some (.int (if x < 0 then -1 else if x ≤ 3 then (if x = 0 then bcl (fitK s2 sh (ag nt rl w (nI (2 ^ rl - 1)) sp hm on nd br) se) else if x = 1 then lstF (inL (fitK s2 sh (ag nt rl w (nI (2 ^ rl - 1)) sp hm on nd br) se)) 64 0 else if x = 2 then allB (fitK s2 sh (ag nt rl w (nI (2 ^ rl - 1)) sp hm on nd br) se) nt else nonB (fitK s2 sh (ag nt rl w (nI (2 ^ rl - 1)) sp hm on nd br) se) nt) else -1))) (fun (hf_ : Nat → Int64) (bg_ : Nat → Int64) => [(y0, .inr (4, [.ref a0, .ref yi, .ref yk, .ref l0, .ref t0, .ref yn, .ref yt, .int (nI se), .ref ys, .int (tn), .ref ym])), (l0, .inr (0, [.ref lh, .ref lb])), (lh, .inl (E.2.1 2, 8, .inr (.inl (hf_)))), (lb, .inl (E.2.1 2, 6, .inr (.inl (bg_)))), (a0, .inr (2, [.int (nI nt), .int (nI pp), .int (nI rl), .int (hm), .int (sp), .int (td), .int (dt), .ref ao, .ref aw, .ref an, .ref ab, .ref av])), (ao, .inl (E.2.1 1, 8, .inl (on))), (aw, .inl (E.2.1 1, 8, .inl (wr))), (an, .inl (E.2.1 1, 8, .inl (nd))), (ab, .inl (E.2.1 1, 8, .inl (br))), (yn, .inl (E.2.1 1, 8, .inl (sn))), (yt, .inl (E.2.1 3, 8, .inl (sh)))])) := by
  refine Ct.of (own := RX4) (nm := "fits") (lv := [(0, .ref y0), (1, .int (x))]) (by decide) rfl rfl (Nat.le_of_ble_eq_true rfl) rfl ?_
  refine v_iload_n (pc := 0) 1 dX4_fits_0 rfl rfl ?_
  refine v_if_lt (pc := 1) 9 dX4_fits_1 (by decide) (fun c_1 => ?_) (fun c_1 => ?_)
  · skip
    refine v_iconst (pc := 9) (v := -1) dX4_fits_9 (by decide) ?_
    refine v_iret (pc := 10) dX4_fits_10 rfl ⟨rfl, rfl⟩ (RtE2.i (hf) (bg) ?_ ?_)
    · skip
      first | simp only [if_pos c_1] | rfl
    · skip
      first | simp only [if_pos c_1] | rfl
  · skip
    refine v_iload_n (pc := 4) 1 dX4_fits_4 rfl rfl ?_
    refine v_iconst (pc := 5) (v := 3) dX4_fits_5 (by decide) ?_
    refine v_icmp_le (pc := 6) 11 dX4_fits_6 (by decide) (fun c_6 => ?_) (fun c_6 => ?_)
    · skip
      refine v_aload_n (pc := 11) 0 dX4_fits_11 rfl rfl ?_
      refine v_callV (pc := 12) (rest := []) [0, 1, 2, 3, 4, 5, 6, 7, 8, 9, 10] 0 lk_704 (c_X4_fitting l E y0 yi yk t0 yn yt ys ym se tn l0 lh lb a0 ao aw an ab av nt pp rl hm sp td dt on wr nd br hf bg sn sh w (by first | assumption | omega) (by first | assumption | omega) (by first | assumption | omega) s2 (by first | assumption | omega) (by first | assumption | omega)) dX4_fits_12 rfl rfl (Nat.le_of_ble_eq_true rfl) (by decide) rfl rfl rfl (by decide) rfl (RtE2.len (fun _ _ => rfl)) (RtE2.go (fun hf_12 bg_12 => ?_))
      refine v_w (ws' := [(y0, .inr (4, [.ref a0, .ref yi, .ref yk, .ref l0, .ref t0, .ref yn, .ref yt, .int (nI se), .ref ys, .int (tn), .ref ym])), (l0, .inr (0, [.ref lh, .ref lb])), (lh, .inl (E.2.1 2, 8, .inr (.inl (hf_12)))), (lb, .inl (E.2.1 2, 6, .inr (.inl (bg_12)))), (a0, .inr (2, [.int (nI nt), .int (nI pp), .int (nI rl), .int (hm), .int (sp), .int (td), .int (dt), .ref ao, .ref aw, .ref an, .ref ab, .ref av])), (ao, .inl (E.2.1 1, 8, .inl (on))), (aw, .inl (E.2.1 1, 8, .inl (wr))), (an, .inl (E.2.1 1, 8, .inl (nd))), (ab, .inl (E.2.1 1, 8, .inl (br))), (yn, .inl (E.2.1 1, 8, .inl (sn))), (yt, .inl (E.2.1 3, 8, .inl (sh)))]) rfl ?_
      refine v_st (st' := [.long ((fitK s2 sh (ag nt rl w (nI (2 ^ rl - 1)) sp hm on nd br) se))]) rfl ?_
      refine v_lstore_n (pc := 15) (lv' := [(2, .long ((fitK s2 sh (ag nt rl w (nI (2 ^ rl - 1)) sp hm on nd br) se))), (0, .ref y0), (1, .int (x))]) dX4_fits_15 rfl (by decide) rfl ?_
      refine v_iload_n (pc := 16) 2 dX4_fits_16 rfl rfl ?_
      by_cases c_17_0 : x = 0
      · skip
        refine v_tableIn (pc := 17) (off := 27) 44 dX4_fits_17 (by rw [c_17_0]; decide) (by rw [c_17_0]; decide) (by rw [c_17_0]; decide) (by decide) ?_
        refine v_lload_n (pc := 44) 0 dX4_fits_44 rfl rfl ?_
        refine v_callS (pc := 45) (rest := []) [] lk_565 (c_J13_bitCount_95d88 l E (fitK s2 sh (ag nt rl w (nI (2 ^ rl - 1)) sp hm on nd br) se)) dX4_fits_45 rfl rfl (Nat.le_of_ble_eq_true rfl) (by decide) (by decide) rfl (Rt.len rfl) (Rt.go ?_)
        refine v_w (ws' := [(y0, .inr (4, [.ref a0, .ref yi, .ref yk, .ref l0, .ref t0, .ref yn, .ref yt, .int (nI se), .ref ys, .int (tn), .ref ym])), (l0, .inr (0, [.ref lh, .ref lb])), (lh, .inl (E.2.1 2, 8, .inr (.inl (hf_12)))), (lb, .inl (E.2.1 2, 6, .inr (.inl (bg_12)))), (a0, .inr (2, [.int (nI nt), .int (nI pp), .int (nI rl), .int (hm), .int (sp), .int (td), .int (dt), .ref ao, .ref aw, .ref an, .ref ab, .ref av])), (ao, .inl (E.2.1 1, 8, .inl (on))), (aw, .inl (E.2.1 1, 8, .inl (wr))), (an, .inl (E.2.1 1, 8, .inl (nd))), (ab, .inl (E.2.1 1, 8, .inl (br))), (yn, .inl (E.2.1 1, 8, .inl (sn))), (yt, .inl (E.2.1 3, 8, .inl (sh)))]) rfl ?_
        refine v_st (st' := [.int (bcl (fitK s2 sh (ag nt rl w (nI (2 ^ rl - 1)) sp hm on nd br) se))]) rfl ?_
        refine v_iret (pc := 48) dX4_fits_48 rfl ⟨rfl, rfl⟩ (RtE2.i (hf_12) (bg_12) ?_ ?_)
        · skip
          first | simp only [if_neg c_1, if_pos c_6, if_pos c_17_0] | rfl
        · skip
          first | simp only [if_neg c_1, if_pos c_6, if_pos c_17_0] | rfl
      by_cases c_17_1 : x = 1
      · skip
        refine v_tableIn (pc := 17) (off := 32) 49 dX4_fits_17 (by rw [c_17_1]; decide) (by rw [c_17_1]; decide) (by rw [c_17_1]; decide) (by decide) ?_
        refine v_lload_n (pc := 49) 0 dX4_fits_49 rfl rfl ?_
        refine v_callS (pc := 50) (rest := []) [] lk_571 (c_X4_leastOf l E (fitK s2 sh (ag nt rl w (nI (2 ^ rl - 1)) sp hm on nd br) se)) dX4_fits_50 rfl rfl (Nat.le_of_ble_eq_true rfl) (by decide) (by decide) rfl (Rt.len rfl) (Rt.go ?_)
        refine v_w (ws' := [(y0, .inr (4, [.ref a0, .ref yi, .ref yk, .ref l0, .ref t0, .ref yn, .ref yt, .int (nI se), .ref ys, .int (tn), .ref ym])), (l0, .inr (0, [.ref lh, .ref lb])), (lh, .inl (E.2.1 2, 8, .inr (.inl (hf_12)))), (lb, .inl (E.2.1 2, 6, .inr (.inl (bg_12)))), (a0, .inr (2, [.int (nI nt), .int (nI pp), .int (nI rl), .int (hm), .int (sp), .int (td), .int (dt), .ref ao, .ref aw, .ref an, .ref ab, .ref av])), (ao, .inl (E.2.1 1, 8, .inl (on))), (aw, .inl (E.2.1 1, 8, .inl (wr))), (an, .inl (E.2.1 1, 8, .inl (nd))), (ab, .inl (E.2.1 1, 8, .inl (br))), (yn, .inl (E.2.1 1, 8, .inl (sn))), (yt, .inl (E.2.1 3, 8, .inl (sh)))]) rfl ?_
        refine v_st (st' := [.int (lstF (inL (fitK s2 sh (ag nt rl w (nI (2 ^ rl - 1)) sp hm on nd br) se)) 64 0)]) rfl ?_
        refine v_iret (pc := 53) dX4_fits_53 rfl ⟨rfl, rfl⟩ (RtE2.i (hf_12) (bg_12) ?_ ?_)
        · skip
          first | simp only [if_neg c_1, if_pos c_6, if_neg c_17_0, if_pos c_17_1] | rfl
        · skip
          first | simp only [if_neg c_1, if_pos c_6, if_neg c_17_0, if_pos c_17_1] | rfl
      by_cases c_17_2 : x = 2
      · skip
        refine v_tableIn (pc := 17) (off := 37) 54 dX4_fits_17 (by rw [c_17_2]; decide) (by rw [c_17_2]; decide) (by rw [c_17_2]; decide) (by decide) ?_
        refine v_aload_n (pc := 54) 1 dX4_fits_54 rfl rfl ?_
        refine v_lload_n (pc := 55) 0 dX4_fits_55 rfl rfl ?_
        refine v_callV (pc := 56) (rest := []) [0, 4] 0 lk_580 (c_X4_inAll l E y0 yi yk t0 yn yt ys ym se tn l0 a0 ao aw an ab av nt pp rl hm sp td dt (fitK s2 sh (ag nt rl w (nI (2 ^ rl - 1)) sp hm on nd br) se) (by first | assumption | omega)) dX4_fits_56 rfl rfl (Nat.le_of_ble_eq_true rfl) (by decide) rfl rfl rfl (by decide) rfl (Rt.len rfl) (Rt.go ?_)
        refine v_w (ws' := [(y0, .inr (4, [.ref a0, .ref yi, .ref yk, .ref l0, .ref t0, .ref yn, .ref yt, .int (nI se), .ref ys, .int (tn), .ref ym])), (l0, .inr (0, [.ref lh, .ref lb])), (lh, .inl (E.2.1 2, 8, .inr (.inl (hf_12)))), (lb, .inl (E.2.1 2, 6, .inr (.inl (bg_12)))), (a0, .inr (2, [.int (nI nt), .int (nI pp), .int (nI rl), .int (hm), .int (sp), .int (td), .int (dt), .ref ao, .ref aw, .ref an, .ref ab, .ref av])), (ao, .inl (E.2.1 1, 8, .inl (on))), (aw, .inl (E.2.1 1, 8, .inl (wr))), (an, .inl (E.2.1 1, 8, .inl (nd))), (ab, .inl (E.2.1 1, 8, .inl (br))), (yn, .inl (E.2.1 1, 8, .inl (sn))), (yt, .inl (E.2.1 3, 8, .inl (sh)))]) rfl ?_
        refine v_st (st' := [.int (allB (fitK s2 sh (ag nt rl w (nI (2 ^ rl - 1)) sp hm on nd br) se) nt)]) rfl ?_
        refine v_iret (pc := 59) dX4_fits_59 rfl ⟨rfl, rfl⟩ (RtE2.i (hf_12) (bg_12) ?_ ?_)
        · skip
          first | simp only [if_neg c_1, if_pos c_6, if_neg c_17_0, if_neg c_17_1, if_pos c_17_2] | rfl
        · skip
          first | simp only [if_neg c_1, if_pos c_6, if_neg c_17_0, if_neg c_17_1, if_pos c_17_2] | rfl
      refine v_tableOut (pc := 17) 60 dX4_fits_17 (sw_out3 c_17_0 c_17_1 c_17_2) (by decide) ?_
      refine v_aload_n (pc := 60) 1 dX4_fits_60 rfl rfl ?_
      refine v_lload_n (pc := 61) 0 dX4_fits_61 rfl rfl ?_
      refine v_callV (pc := 62) (rest := []) [0, 4] 0 lk_586 (c_X4_inNone l E y0 yi yk t0 yn yt ys ym se tn l0 a0 ao aw an ab av nt pp rl hm sp td dt (fitK s2 sh (ag nt rl w (nI (2 ^ rl - 1)) sp hm on nd br) se) (by first | assumption | omega)) dX4_fits_62 rfl rfl (Nat.le_of_ble_eq_true rfl) (by decide) rfl rfl rfl (by decide) rfl (Rt.len rfl) (Rt.go ?_)
      refine v_w (ws' := [(y0, .inr (4, [.ref a0, .ref yi, .ref yk, .ref l0, .ref t0, .ref yn, .ref yt, .int (nI se), .ref ys, .int (tn), .ref ym])), (l0, .inr (0, [.ref lh, .ref lb])), (lh, .inl (E.2.1 2, 8, .inr (.inl (hf_12)))), (lb, .inl (E.2.1 2, 6, .inr (.inl (bg_12)))), (a0, .inr (2, [.int (nI nt), .int (nI pp), .int (nI rl), .int (hm), .int (sp), .int (td), .int (dt), .ref ao, .ref aw, .ref an, .ref ab, .ref av])), (ao, .inl (E.2.1 1, 8, .inl (on))), (aw, .inl (E.2.1 1, 8, .inl (wr))), (an, .inl (E.2.1 1, 8, .inl (nd))), (ab, .inl (E.2.1 1, 8, .inl (br))), (yn, .inl (E.2.1 1, 8, .inl (sn))), (yt, .inl (E.2.1 3, 8, .inl (sh)))]) rfl ?_
      refine v_st (st' := [.int (nonB (fitK s2 sh (ag nt rl w (nI (2 ^ rl - 1)) sp hm on nd br) se) nt)]) rfl ?_
      refine v_iret (pc := 65) dX4_fits_65 rfl ⟨rfl, rfl⟩ (RtE2.i (hf_12) (bg_12) ?_ ?_)
      · skip
        first | simp only [if_neg c_1, if_pos c_6, if_neg c_17_0, if_neg c_17_1, if_neg c_17_2] | rfl
      · skip
        first | simp only [if_neg c_1, if_pos c_6, if_neg c_17_0, if_neg c_17_1, if_neg c_17_2] | rfl
    · skip
      refine v_iconst (pc := 9) (v := -1) dX4_fits_9 (by decide) ?_
      refine v_iret (pc := 10) dX4_fits_10 rfl ⟨rfl, rfl⟩ (RtE2.i (hf) (bg) ?_ ?_)
      · skip
        first | simp only [if_neg c_1, if_neg c_6] | rfl
      · skip
        first | simp only [if_neg c_1, if_neg c_6] | rfl
theorem c_X4_ask (l : Launch) (E : VE) (y0 : Nat) (yi : Nat) (yk : Nat) (t0 : Nat) (yn : Nat) (yt : Nat) (ys : Nat) (ym : Nat) (se : Nat) (tn : Int32) (l0 : Nat) (lh : Nat) (lb : Nat) (a0 : Nat) (ao : Nat) (aw : Nat) (an : Nat) (ab : Nat) (av : Nat) (nt : Nat) (pp : Nat) (rl : Nat) (hm : Int32) (sp : Int32) (td : Int32) (dt : Int32) (on : Nat → Int32) (wr : Nat → Int32) (nd : Nat → Int32) (br : Nat → Int32) (hf : Nat → Int64) (bg : Nat → Int64) (sn : Nat → Int32) (sh : Nat → Int32) (wh : Int32) (w : Nat → Nat) (h_rl : rl ≤ 8) (h_nt : nt ≤ 6) (h_wr : ∀ k, k < rl → wr k = nI (w k) ∧ w k < 6) (s2 : Nat → Nat) (h_se : se ≤ 8) (h_sn : ∀ j, j < se → sn j = nI (s2 j) ∧ s2 j < 6) : Ct l E yX4_ask cX4_ask 8 (Option.some FieldType.int) 5 115 0 0 [.ref y0, .int (wh)] [(y0, .inr (4, [.ref a0, .ref yi, .ref yk, .ref l0, .ref t0, .ref yn, .ref yt, .int (nI se), .ref ys, .int (tn), .ref ym])), (l0, .inr (0, [.ref lh, .ref lb])), (lh, .inl (E.2.1 2, 8, .inr (.inl (hf)))), (lb, .inl (E.2.1 2, 6, .inr (.inl (bg)))), (a0, .inr (2, [.int (nI nt), .int (nI pp), .int (nI rl), .int (hm), .int (sp), .int (td), .int (dt), .ref ao, .ref aw, .ref an, .ref ab, .ref av])), (ao, .inl (E.2.1 1, 8, .inl (on))), (aw, .inl (E.2.1 1, 8, .inl (wr))), (an, .inl (E.2.1 1, 8, .inl (nd))), (ab, .inl (E.2.1 1, 8, .inl (br))), (yn, .inl (E.2.1 1, 8, .inl (sn))), (yt, .inl (E.2.1 3, 8, .inl (sh)))] (RtE2 (some (.int (if wh = 0 ∨ wh = 1 then (if wh = 0 then (askK (fitK s2 sh (ag nt rl w (nI (2 ^ rl - 1)) sp hm on nd br) se) nt).1 else if (askK (fitK s2 sh (ag nt rl w (nI (2 ^ rl - 1)) sp hm on nd br) se) nt).1 = -4 then (askK (fitK s2 sh (ag nt rl w (nI (2 ^ rl - 1)) sp hm on nd br) se) nt).1 else (askK (fitK s2 sh (ag nt rl w (nI (2 ^ rl - 1)) sp hm on nd br) se) nt).2) else -1))) (fun (hf_ : Nat → Int64) (bg_ : Nat → Int64) => [(y0, .inr (4, [.ref a0, .ref yi, .ref yk, .ref l0, .ref t0, .ref yn, .ref yt, .int (nI se), .ref ys, .int (tn), .ref ym])), (l0, .inr (0, [.ref lh, .ref lb])), (lh, .inl (E.2.1 2, 8, .inr (.inl (hf_)))), (lb, .inl (E.2.1 2, 6, .inr (.inl (bg_)))), (a0, .inr (2, [.int (nI nt), .int (nI pp), .int (nI rl), .int (hm), .int (sp), .int (td), .int (dt), .ref ao, .ref aw, .ref an, .ref ab, .ref av])), (ao, .inl (E.2.1 1, 8, .inl (on))), (aw, .inl (E.2.1 1, 8, .inl (wr))), (an, .inl (E.2.1 1, 8, .inl (nd))), (ab, .inl (E.2.1 1, 8, .inl (br))), (yn, .inl (E.2.1 1, 8, .inl (sn))), (yt, .inl (E.2.1 3, 8, .inl (sh)))])) := by
  refine Ct.of (own := RX4) (nm := "ask") (lv := [(0, .ref y0), (1, .int (wh))]) (by decide) rfl rfl (Nat.le_of_ble_eq_true rfl) rfl ?_
  refine v_iload_n (pc := 0) 1 dX4_ask_0 rfl rfl ?_
  refine v_callS (pc := 1) (rest := []) [] lk_531 (c_X4_isYesNo l E wh) dX4_ask_1 rfl rfl (Nat.le_of_ble_eq_true rfl) (by decide) (by decide) rfl (Rt.len rfl) (Rt.go ?_)
  refine v_w (ws' := [(y0, .inr (4, [.ref a0, .ref yi, .ref yk, .ref l0, .ref t0, .ref yn, .ref yt, .int (nI se), .ref ys, .int (tn), .ref ym])), (l0, .inr (0, [.ref lh, .ref lb])), (lh, .inl (E.2.1 2, 8, .inr (.inl (hf)))), (lb, .inl (E.2.1 2, 6, .inr (.inl (bg)))), (a0, .inr (2, [.int (nI nt), .int (nI pp), .int (nI rl), .int (hm), .int (sp), .int (td), .int (dt), .ref ao, .ref aw, .ref an, .ref ab, .ref av])), (ao, .inl (E.2.1 1, 8, .inl (on))), (aw, .inl (E.2.1 1, 8, .inl (wr))), (an, .inl (E.2.1 1, 8, .inl (nd))), (ab, .inl (E.2.1 1, 8, .inl (br))), (yn, .inl (E.2.1 1, 8, .inl (sn))), (yt, .inl (E.2.1 3, 8, .inl (sh)))]) rfl ?_
  refine v_st (st' := [.int (if wh = 0 ∨ wh = 1 then 1 else 0)]) rfl ?_
  refine v_ifB_ne (pc := 4) 9 dX4_ask_4 (by decide) (fun c_4 => ?_) (fun c_4 => ?_)
  · skip
    refine v_aload_n (pc := 9) 0 dX4_ask_9 rfl rfl ?_
    refine v_callV (pc := 10) (rest := []) [0, 1, 2, 3, 4, 5, 6, 7, 8, 9, 10] 0 lk_704 (c_X4_fitting l E y0 yi yk t0 yn yt ys ym se tn l0 lh lb a0 ao aw an ab av nt pp rl hm sp td dt on wr nd br hf bg sn sh w (by first | assumption | omega) (by first | assumption | omega) (by first | assumption | omega) s2 (by first | assumption | omega) (by first | assumption | omega)) dX4_ask_10 rfl rfl (Nat.le_of_ble_eq_true rfl) (by decide) rfl rfl rfl (by decide) rfl (RtE2.len (fun _ _ => rfl)) (RtE2.go (fun hf_10 bg_10 => ?_))
    refine v_w (ws' := [(y0, .inr (4, [.ref a0, .ref yi, .ref yk, .ref l0, .ref t0, .ref yn, .ref yt, .int (nI se), .ref ys, .int (tn), .ref ym])), (l0, .inr (0, [.ref lh, .ref lb])), (lh, .inl (E.2.1 2, 8, .inr (.inl (hf_10)))), (lb, .inl (E.2.1 2, 6, .inr (.inl (bg_10)))), (a0, .inr (2, [.int (nI nt), .int (nI pp), .int (nI rl), .int (hm), .int (sp), .int (td), .int (dt), .ref ao, .ref aw, .ref an, .ref ab, .ref av])), (ao, .inl (E.2.1 1, 8, .inl (on))), (aw, .inl (E.2.1 1, 8, .inl (wr))), (an, .inl (E.2.1 1, 8, .inl (nd))), (ab, .inl (E.2.1 1, 8, .inl (br))), (yn, .inl (E.2.1 1, 8, .inl (sn))), (yt, .inl (E.2.1 3, 8, .inl (sh)))]) rfl ?_
    refine v_st (st' := [.long ((fitK s2 sh (ag nt rl w (nI (2 ^ rl - 1)) sp hm on nd br) se))]) rfl ?_
    refine v_lstore_n (pc := 13) (lv' := [(2, .long ((fitK s2 sh (ag nt rl w (nI (2 ^ rl - 1)) sp hm on nd br) se))), (0, .ref y0), (1, .int (wh))]) dX4_ask_13 rfl (by decide) rfl ?_
    refine v_bipush (pc := 14) (v := -4) dX4_ask_14 (by decide) ?_
    refine v_istore (pc := 16) (lv' := [(4, .int (-4)), (2, .long ((fitK s2 sh (ag nt rl w (nI (2 ^ rl - 1)) sp hm on nd br) se))), (0, .ref y0), (1, .int (wh))]) dX4_ask_16 (by decide) rfl ?_
    refine v_lload_n (pc := 18) 1 dX4_ask_18 rfl rfl ?_
    refine v_callS (pc := 19) (rest := []) [] lk_565 (c_J13_bitCount_95d88 l E (fitK s2 sh (ag nt rl w (nI (2 ^ rl - 1)) sp hm on nd br) se)) dX4_ask_19 rfl rfl (Nat.le_of_ble_eq_true rfl) (by decide) (by decide) rfl (Rt.len rfl) (Rt.go ?_)
    refine v_w (ws' := [(y0, .inr (4, [.ref a0, .ref yi, .ref yk, .ref l0, .ref t0, .ref yn, .ref yt, .int (nI se), .ref ys, .int (tn), .ref ym])), (l0, .inr (0, [.ref lh, .ref lb])), (lh, .inl (E.2.1 2, 8, .inr (.inl (hf_10)))), (lb, .inl (E.2.1 2, 6, .inr (.inl (bg_10)))), (a0, .inr (2, [.int (nI nt), .int (nI pp), .int (nI rl), .int (hm), .int (sp), .int (td), .int (dt), .ref ao, .ref aw, .ref an, .ref ab, .ref av])), (ao, .inl (E.2.1 1, 8, .inl (on))), (aw, .inl (E.2.1 1, 8, .inl (wr))), (an, .inl (E.2.1 1, 8, .inl (nd))), (ab, .inl (E.2.1 1, 8, .inl (br))), (yn, .inl (E.2.1 1, 8, .inl (sn))), (yt, .inl (E.2.1 3, 8, .inl (sh)))]) rfl ?_
    refine v_st (st' := [.int (bcl (fitK s2 sh (ag nt rl w (nI (2 ^ rl - 1)) sp hm on nd br) se))]) rfl ?_
    refine v_istore (pc := 22) (lv' := [(5, .int (bcl (fitK s2 sh (ag nt rl w (nI (2 ^ rl - 1)) sp hm on nd br) se))), (4, .int (-4)), (2, .long ((fitK s2 sh (ag nt rl w (nI (2 ^ rl - 1)) sp hm on nd br) se))), (0, .ref y0), (1, .int (wh))]) dX4_ask_22 (by decide) rfl ?_
    refine v_iconst (pc := 24) (v := 0) dX4_ask_24 (by decide) ?_
    refine v_istore (pc := 25) (lv' := [(6, .int (0)), (5, .int (bcl (fitK s2 sh (ag nt rl w (nI (2 ^ rl - 1)) sp hm on nd br) se))), (4, .int (-4)), (2, .long ((fitK s2 sh (ag nt rl w (nI (2 ^ rl - 1)) sp hm on nd br) se))), (0, .ref y0), (1, .int (wh))]) dX4_ask_25 (by decide) rfl ?_
    have loop_27 : ∀ (D_27 : Nat) (i : Nat) (b : Int32) (m : Int32), nt - i < D_27 → (i ≤ nt) → ((b, m) = askK (fitK s2 sh (ag nt rl w (nI (2 ^ rl - 1)) sp hm on nd br) se) i) → V l E RX4 cX4_ask 8 (Option.some FieldType.int) "ask" ({ frames := 5, cells := 0, slots := 0, locals := 115 }) [(y0, .inr (4, [.ref a0, .ref yi, .ref yk, .ref l0, .ref t0, .ref yn, .ref yt, .int (nI se), .ref ys, .int (tn), .ref ym])), (l0, .inr (0, [.ref lh, .ref lb])), (lh, .inl (E.2.1 2, 8, .inr (.inl (hf)))), (lb, .inl (E.2.1 2, 6, .inr (.inl (bg)))), (a0, .inr (2, [.int (nI nt), .int (nI pp), .int (nI rl), .int (hm), .int (sp), .int (td), .int (dt), .ref ao, .ref aw, .ref an, .ref ab, .ref av])), (ao, .inl (E.2.1 1, 8, .inl (on))), (aw, .inl (E.2.1 1, 8, .inl (wr))), (an, .inl (E.2.1 1, 8, .inl (nd))), (ab, .inl (E.2.1 1, 8, .inl (br))), (yn, .inl (E.2.1 1, 8, .inl (sn))), (yt, .inl (E.2.1 3, 8, .inl (sh)))] 0 0 (RtE2 (some (.int (if wh = 0 ∨ wh = 1 then (if wh = 0 then (askK (fitK s2 sh (ag nt rl w (nI (2 ^ rl - 1)) sp hm on nd br) se) nt).1 else if (askK (fitK s2 sh (ag nt rl w (nI (2 ^ rl - 1)) sp hm on nd br) se) nt).1 = -4 then (askK (fitK s2 sh (ag nt rl w (nI (2 ^ rl - 1)) sp hm on nd br) se) nt).1 else (askK (fitK s2 sh (ag nt rl w (nI (2 ^ rl - 1)) sp hm on nd br) se) nt).2) else -1))) (fun (hf_ : Nat → Int64) (bg_ : Nat → Int64) => [(y0, .inr (4, [.ref a0, .ref yi, .ref yk, .ref l0, .ref t0, .ref yn, .ref yt, .int (nI se), .ref ys, .int (tn), .ref ym])), (l0, .inr (0, [.ref lh, .ref lb])), (lh, .inl (E.2.1 2, 8, .inr (.inl (hf_)))), (lb, .inl (E.2.1 2, 6, .inr (.inl (bg_)))), (a0, .inr (2, [.int (nI nt), .int (nI pp), .int (nI rl), .int (hm), .int (sp), .int (td), .int (dt), .ref ao, .ref aw, .ref an, .ref ab, .ref av])), (ao, .inl (E.2.1 1, 8, .inl (on))), (aw, .inl (E.2.1 1, 8, .inl (wr))), (an, .inl (E.2.1 1, 8, .inl (nd))), (ab, .inl (E.2.1 1, 8, .inl (br))), (yn, .inl (E.2.1 1, 8, .inl (sn))), (yt, .inl (E.2.1 3, 8, .inl (sh)))])) 0 0 27 [(6, .int (nI i)), (4, .int (b)), (5, .int (m)), (2, .long ((fitK s2 sh (ag nt rl w (nI (2 ^ rl - 1)) sp hm on nd br) se))), (0, .ref y0), (1, .int (wh))] [] [(y0, .inr (4, [.ref a0, .ref yi, .ref yk, .ref l0, .ref t0, .ref yn, .ref yt, .int (nI se), .ref ys, .int (tn), .ref ym])), (l0, .inr (0, [.ref lh, .ref lb])), (lh, .inl (E.2.1 2, 8, .inr (.inl (hf_10)))), (lb, .inl (E.2.1 2, 6, .inr (.inl (bg_10)))), (a0, .inr (2, [.int (nI nt), .int (nI pp), .int (nI rl), .int (hm), .int (sp), .int (td), .int (dt), .ref ao, .ref aw, .ref an, .ref ab, .ref av])), (ao, .inl (E.2.1 1, 8, .inl (on))), (aw, .inl (E.2.1 1, 8, .inl (wr))), (an, .inl (E.2.1 1, 8, .inl (nd))), (ab, .inl (E.2.1 1, 8, .inl (br))), (yn, .inl (E.2.1 1, 8, .inl (sn))), (yt, .inl (E.2.1 3, 8, .inl (sh)))] := by
      intro D_27
      induction D_27 with
      | zero => intro i b m h; exact absurd h (Nat.not_lt_zero _)
      | succ D_27 ih_27 =>
        intro i b m hmu_27 h_27_0 h_27_1
        refine v_iload (pc := 27) 0 dX4_ask_27 rfl ?_
        refine v_aload_n (pc := 29) 4 dX4_ask_29 rfl rfl ?_
        refine gf_240 (pc := 30) 0 dX4_ask_30 rfl rfl ?_
        refine gf_90 (pc := 33) 4 dX4_ask_33 rfl rfl ?_
        refine v_cmpN_ge (pc := 36) (a := i) (b := nt) 91 dX4_ask_36 (by decide) (by omega) (by omega) (fun c_36 => ?_) (fun c_36 => ?_)
        · skip
          refine v_iload_n (pc := 91) 5 dX4_ask_91 rfl rfl ?_
          refine v_if_eq (pc := 92) 102 dX4_ask_92 (by decide) (fun c_92 => ?_) (fun c_92 => ?_)
          · skip
            refine v_iload (pc := 102) 1 dX4_ask_102 rfl ?_
            refine v_goto (pc := 104) 109 dX4_ask_104 (by decide) ?_
            refine v_iret (pc := 109) dX4_ask_109 rfl ⟨rfl, rfl⟩ (RtE2.i (hf_10) (bg_10) ?_ ?_)
            · skip
              obtain rfl : i = nt := by omega
              rw [if_pos c_4, ← h_27_1, if_pos c_92]
            · skip
              rfl
          · skip
            refine v_iload (pc := 95) 1 dX4_ask_95 rfl ?_
            refine v_bipush (pc := 97) (v := -4) dX4_ask_97 (by decide) ?_
            refine v_icmp_ne (pc := 99) 107 dX4_ask_99 (by decide) (fun c_99 => ?_) (fun c_99 => ?_)
            · skip
              refine v_iload (pc := 107) 2 dX4_ask_107 rfl ?_
              refine v_iret (pc := 109) dX4_ask_109 rfl ⟨rfl, rfl⟩ (RtE2.i (hf_10) (bg_10) ?_ ?_)
              · skip
                obtain rfl : i = nt := by omega
                rw [if_pos c_4, ← h_27_1, if_neg c_92, if_neg c_99]
              · skip
                rfl
            · skip
              refine v_iload (pc := 102) 1 dX4_ask_102 rfl ?_
              refine v_goto (pc := 104) 109 dX4_ask_104 (by decide) ?_
              refine v_iret (pc := 109) dX4_ask_109 rfl ⟨rfl, rfl⟩ (RtE2.i (hf_10) (bg_10) ?_ ?_)
              · skip
                obtain rfl : i = nt := by omega
                rw [if_pos c_4, ← h_27_1, if_neg c_92, if_pos c_99]
              · skip
                rfl
        · skip
          refine v_lload_n (pc := 39) 3 dX4_ask_39 rfl rfl ?_
          refine v_gsHV (pc := 40) dX4_ask_40 tb_584 ?_
          refine v_iload (pc := 43) 0 dX4_ask_43 rfl ?_
          refine v_tlHVN (pc := 45) (i) dX4_ask_45 rfl (by omega) ?_
          refine v_land (pc := 46) dX4_ask_46 ?_
          refine v_callS (pc := 47) (rest := []) [] lk_565 (c_J13_bitCount_95d88 l E (((fitK s2 sh (ag nt rl w (nI (2 ^ rl - 1)) sp hm on nd br) se)) &&& (HVj (i)))) dX4_ask_47 rfl rfl (Nat.le_of_ble_eq_true rfl) (by decide) (by decide) rfl (Rt.len rfl) (Rt.go ?_)
          refine v_w (ws' := [(y0, .inr (4, [.ref a0, .ref yi, .ref yk, .ref l0, .ref t0, .ref yn, .ref yt, .int (nI se), .ref ys, .int (tn), .ref ym])), (l0, .inr (0, [.ref lh, .ref lb])), (lh, .inl (E.2.1 2, 8, .inr (.inl (hf_10)))), (lb, .inl (E.2.1 2, 6, .inr (.inl (bg_10)))), (a0, .inr (2, [.int (nI nt), .int (nI pp), .int (nI rl), .int (hm), .int (sp), .int (td), .int (dt), .ref ao, .ref aw, .ref an, .ref ab, .ref av])), (ao, .inl (E.2.1 1, 8, .inl (on))), (aw, .inl (E.2.1 1, 8, .inl (wr))), (an, .inl (E.2.1 1, 8, .inl (nd))), (ab, .inl (E.2.1 1, 8, .inl (br))), (yn, .inl (E.2.1 1, 8, .inl (sn))), (yt, .inl (E.2.1 3, 8, .inl (sh)))]) rfl ?_
          refine v_st (st' := [.int (bcl (((fitK s2 sh (ag nt rl w (nI (2 ^ rl - 1)) sp hm on nd br) se)) &&& (HVj (i))))]) rfl ?_
          refine v_lload_n (pc := 50) 3 dX4_ask_50 rfl rfl ?_
          refine v_gsHV (pc := 51) dX4_ask_51 tb_584 ?_
          refine v_iload (pc := 54) 0 dX4_ask_54 rfl ?_
          refine v_tlHVN (pc := 56) (i) dX4_ask_56 rfl (by omega) ?_
          refine v_ldc2 (pc := 57) dX4_ask_57 tb_585 ?_
          refine v_lxor (pc := 60) dX4_ask_60 ?_
          refine v_land (pc := 61) dX4_ask_61 ?_
          refine v_callS (pc := 62) (rest := [.int (bcl (((fitK s2 sh (ag nt rl w (nI (2 ^ rl - 1)) sp hm on nd br) se)) &&& (HVj (i))))]) [] lk_565 (c_J13_bitCount_95d88 l E (((fitK s2 sh (ag nt rl w (nI (2 ^ rl - 1)) sp hm on nd br) se)) &&& ((HVj (i)) ^^^ ((-1))))) dX4_ask_62 rfl rfl (Nat.le_of_ble_eq_true rfl) (by decide) (by decide) rfl (Rt.len rfl) (Rt.go ?_)
          refine v_w (ws' := [(y0, .inr (4, [.ref a0, .ref yi, .ref yk, .ref l0, .ref t0, .ref yn, .ref yt, .int (nI se), .ref ys, .int (tn), .ref ym])), (l0, .inr (0, [.ref lh, .ref lb])), (lh, .inl (E.2.1 2, 8, .inr (.inl (hf_10)))), (lb, .inl (E.2.1 2, 6, .inr (.inl (bg_10)))), (a0, .inr (2, [.int (nI nt), .int (nI pp), .int (nI rl), .int (hm), .int (sp), .int (td), .int (dt), .ref ao, .ref aw, .ref an, .ref ab, .ref av])), (ao, .inl (E.2.1 1, 8, .inl (on))), (aw, .inl (E.2.1 1, 8, .inl (wr))), (an, .inl (E.2.1 1, 8, .inl (nd))), (ab, .inl (E.2.1 1, 8, .inl (br))), (yn, .inl (E.2.1 1, 8, .inl (sn))), (yt, .inl (E.2.1 3, 8, .inl (sh)))]) rfl ?_
          refine v_st (st' := [.int (bcl (((fitK s2 sh (ag nt rl w (nI (2 ^ rl - 1)) sp hm on nd br) se)) &&& ((HVj (i)) ^^^ ((-1))))), .int (bcl (((fitK s2 sh (ag nt rl w (nI (2 ^ rl - 1)) sp hm on nd br) se)) &&& (HVj (i))))]) rfl ?_
          refine v_mmax (pc := 65) dX4_ask_65 tb_712 tb_713 tb_72 tb_714 (by decide) ?_
          refine v_st (st' := [.int (mxI (bcl ((fitK s2 sh (ag nt rl w (nI (2 ^ rl - 1)) sp hm on nd br) se) &&& HVj i)) (bcl ((fitK s2 sh (ag nt rl w (nI (2 ^ rl - 1)) sp hm on nd br) se) &&& (HVj i ^^^ -1))))]) rfl ?_
          refine v_istore (pc := 68) (lv' := [(7, .int (mxI (bcl ((fitK s2 sh (ag nt rl w (nI (2 ^ rl - 1)) sp hm on nd br) se) &&& HVj i)) (bcl ((fitK s2 sh (ag nt rl w (nI (2 ^ rl - 1)) sp hm on nd br) se) &&& (HVj i ^^^ -1))))), (6, .int (nI i)), (4, .int (b)), (5, .int (m)), (2, .long ((fitK s2 sh (ag nt rl w (nI (2 ^ rl - 1)) sp hm on nd br) se))), (0, .ref y0), (1, .int (wh))]) dX4_ask_68 (by decide) rfl ?_
          refine v_iload (pc := 70) 0 dX4_ask_70 rfl ?_
          refine v_iload (pc := 72) 3 dX4_ask_72 rfl ?_
          refine v_icmp_ge (pc := 74) 85 dX4_ask_74 (by decide) (fun c_74 => ?_) (fun c_74 => ?_)
          · skip
            refine v_iinc (pc := 85) (v := nI (i + 1)) (lv' := [(6, .int (nI (i + 1))), (7, .int (mxI (bcl ((fitK s2 sh (ag nt rl w (nI (2 ^ rl - 1)) sp hm on nd br) se) &&& HVj i)) (bcl ((fitK s2 sh (ag nt rl w (nI (2 ^ rl - 1)) sp hm on nd br) se) &&& (HVj i ^^^ -1))))), (4, .int (b)), (5, .int (m)), (2, .long ((fitK s2 sh (ag nt rl w (nI (2 ^ rl - 1)) sp hm on nd br) se))), (0, .ref y0), (1, .int (wh))]) 1 dX4_ask_85 rfl (nI_inc (i) 1) (by decide) rfl ?_
            refine v_goto (pc := 88) 27 dX4_ask_88 (by decide) ?_
            refine v_lv (lv' := [(6, .int (nI (i + 1))), (4, .int (b)), (5, .int (m)), (2, .long ((fitK s2 sh (ag nt rl w (nI (2 ^ rl - 1)) sp hm on nd br) se))), (0, .ref y0), (1, .int (wh))]) [0, 2, 3, 4, 5, 6] rfl ?_
            refine ih_27 (i + 1) b m (by omega) ?_ ?_
            · omega
            · simp only [askK]; rw [← h_27_1, if_neg (fun q => q c_74)]
          · skip
            refine v_iload (pc := 77) 1 dX4_ask_77 rfl ?_
            refine v_istore (pc := 79) (lv' := [(4, .int (nI i)), (7, .int (mxI (bcl ((fitK s2 sh (ag nt rl w (nI (2 ^ rl - 1)) sp hm on nd br) se) &&& HVj i)) (bcl ((fitK s2 sh (ag nt rl w (nI (2 ^ rl - 1)) sp hm on nd br) se) &&& (HVj i ^^^ -1))))), (6, .int (nI i)), (5, .int (m)), (2, .long ((fitK s2 sh (ag nt rl w (nI (2 ^ rl - 1)) sp hm on nd br) se))), (0, .ref y0), (1, .int (wh))]) dX4_ask_79 (by decide) rfl ?_
            refine v_iload (pc := 81) 1 dX4_ask_81 rfl ?_
            refine v_istore (pc := 83) (lv' := [(5, .int (mxI (bcl ((fitK s2 sh (ag nt rl w (nI (2 ^ rl - 1)) sp hm on nd br) se) &&& HVj i)) (bcl ((fitK s2 sh (ag nt rl w (nI (2 ^ rl - 1)) sp hm on nd br) se) &&& (HVj i ^^^ -1))))), (4, .int (nI i)), (7, .int (mxI (bcl ((fitK s2 sh (ag nt rl w (nI (2 ^ rl - 1)) sp hm on nd br) se) &&& HVj i)) (bcl ((fitK s2 sh (ag nt rl w (nI (2 ^ rl - 1)) sp hm on nd br) se) &&& (HVj i ^^^ -1))))), (6, .int (nI i)), (2, .long ((fitK s2 sh (ag nt rl w (nI (2 ^ rl - 1)) sp hm on nd br) se))), (0, .ref y0), (1, .int (wh))]) dX4_ask_83 (by decide) rfl ?_
            refine v_iinc (pc := 85) (v := nI (i + 1)) (lv' := [(6, .int (nI (i + 1))), (5, .int (mxI (bcl ((fitK s2 sh (ag nt rl w (nI (2 ^ rl - 1)) sp hm on nd br) se) &&& HVj i)) (bcl ((fitK s2 sh (ag nt rl w (nI (2 ^ rl - 1)) sp hm on nd br) se) &&& (HVj i ^^^ -1))))), (4, .int (nI i)), (7, .int (mxI (bcl ((fitK s2 sh (ag nt rl w (nI (2 ^ rl - 1)) sp hm on nd br) se) &&& HVj i)) (bcl ((fitK s2 sh (ag nt rl w (nI (2 ^ rl - 1)) sp hm on nd br) se) &&& (HVj i ^^^ -1))))), (2, .long ((fitK s2 sh (ag nt rl w (nI (2 ^ rl - 1)) sp hm on nd br) se))), (0, .ref y0), (1, .int (wh))]) 3 dX4_ask_85 rfl (nI_inc (i) 1) (by decide) rfl ?_
            refine v_goto (pc := 88) 27 dX4_ask_88 (by decide) ?_
            refine v_lv (lv' := [(6, .int (nI (i + 1))), (4, .int (nI i)), (5, .int (mxI (bcl ((fitK s2 sh (ag nt rl w (nI (2 ^ rl - 1)) sp hm on nd br) se) &&& HVj i)) (bcl ((fitK s2 sh (ag nt rl w (nI (2 ^ rl - 1)) sp hm on nd br) se) &&& (HVj i ^^^ -1))))), (2, .long ((fitK s2 sh (ag nt rl w (nI (2 ^ rl - 1)) sp hm on nd br) se))), (0, .ref y0), (1, .int (wh))]) [0, 2, 1, 4, 5, 6] rfl ?_
            refine ih_27 (i + 1) (nI i) (mxI (bcl ((fitK s2 sh (ag nt rl w (nI (2 ^ rl - 1)) sp hm on nd br) se) &&& HVj i)) (bcl ((fitK s2 sh (ag nt rl w (nI (2 ^ rl - 1)) sp hm on nd br) se) &&& (HVj i ^^^ -1)))) (by omega) ?_ ?_
            · omega
            · simp only [askK]; rw [← h_27_1, if_pos c_74]
    refine v_lv (lv' := [(6, .int (nI 0)), (4, .int (-4)), (5, .int (bcl (fitK s2 sh (ag nt rl w (nI (2 ^ rl - 1)) sp hm on nd br) se))), (2, .long ((fitK s2 sh (ag nt rl w (nI (2 ^ rl - 1)) sp hm on nd br) se))), (0, .ref y0), (1, .int (wh))]) [0, 2, 1, 3, 4, 5] rfl ?_
    refine loop_27 ((nt - 0) + 1) 0 (-4) (bcl (fitK s2 sh (ag nt rl w (nI (2 ^ rl - 1)) sp hm on nd br) se)) (Nat.lt_succ_self _) ?_ ?_
    · omega
    · rfl
  · skip
    refine v_iconst (pc := 7) (v := -1) dX4_ask_7 (by decide) ?_
    refine v_iret (pc := 8) dX4_ask_8 rfl ⟨rfl, rfl⟩ (RtE2.i (hf) (bg) ?_ ?_)
    · skip
      first | simp only [if_neg c_4] | rfl
    · skip
      first | simp only [if_neg c_4] | rfl
theorem c_X4_drift (l : Launch) (E : VE) (y0 : Nat) (yi : Nat) (yk : Nat) (t0 : Nat) (yn : Nat) (yt : Nat) (ys : Nat) (ym : Nat) (se : Nat) (tn : Int32) (l0 : Nat) (a0 : Nat) (ao : Nat) (aw : Nat) (an : Nat) (ab : Nat) (av : Nat) (nt : Nat) (pp : Nat) (rl : Nat) (hm : Int32) (sp : Int32) (td : Int32) (dt : Int32) (on : Nat → Int32) (wr : Nat → Int32) (nd : Nat → Int32) (br : Nat → Int32) (sd : Int32) (n : Int32) (wh : Int32) (h_rl : rl ≤ 8) (h_nt : nt ≤ 6) (h_n1 : 1 ≤ nt) : Ct l E yX4_drift cX4_drift 8 (Option.some FieldType.int) 3 66 0 0 [.ref y0, .int (sd), .int (n), .int (wh)] [(y0, .inr (4, [.ref a0, .ref yi, .ref yk, .ref l0, .ref t0, .ref yn, .ref yt, .int (nI se), .ref ys, .int (tn), .ref ym])), (a0, .inr (2, [.int (nI nt), .int (nI pp), .int (nI rl), .int (hm), .int (sp), .int (td), .int (dt), .ref ao, .ref aw, .ref an, .ref ab, .ref av])), (ao, .inl (E.2.1 1, 8, .inl (on))), (aw, .inl (E.2.1 1, 8, .inl (wr))), (an, .inl (E.2.1 1, 8, .inl (nd))), (ab, .inl (E.2.1 1, 8, .inl (br)))] (Rt (some (.int (if n < 1 then -1 else if 60 < n then -1 else if wh = 0 ∨ wh = 1 then (if wh = 0 then (drK (outc rl hm sp on wr nd br) nt sd td n.toNatClampNeg).2.1 else nI (drK (outc rl hm sp on wr nd br) nt sd td n.toNatClampNeg).2.2) else -1))) [(y0, .inr (4, [.ref a0, .ref yi, .ref yk, .ref l0, .ref t0, .ref yn, .ref yt, .int (nI se), .ref ys, .int (tn), .ref ym])), (a0, .inr (2, [.int (nI nt), .int (nI pp), .int (nI rl), .int (hm), .int (sp), .int (td), .int (dt), .ref ao, .ref aw, .ref an, .ref ab, .ref av])), (ao, .inl (E.2.1 1, 8, .inl (on))), (aw, .inl (E.2.1 1, 8, .inl (wr))), (an, .inl (E.2.1 1, 8, .inl (nd))), (ab, .inl (E.2.1 1, 8, .inl (br)))]) := by
  refine Ct.of (own := RX4) (nm := "drift") (lv := [(0, .ref y0), (1, .int (sd)), (2, .int (n)), (3, .int (wh))]) (by decide) rfl rfl (Nat.le_of_ble_eq_true rfl) rfl ?_
  refine v_iload_n (pc := 0) 2 dX4_drift_0 rfl rfl ?_
  refine v_iconst (pc := 1) (v := 1) dX4_drift_1 (by decide) ?_
  refine v_icmp_lt (pc := 2) 29 dX4_drift_2 (by decide) (fun c_2 => ?_) (fun c_2 => ?_)
  · skip
    refine v_iconst (pc := 29) (v := -1) dX4_drift_29 (by decide) ?_
    refine v_iret (pc := 30) dX4_drift_30 rfl ⟨rfl, rfl⟩ (Rt.i ?_)
    rw [if_pos c_2]
  · skip
    refine v_iload_n (pc := 5) 2 dX4_drift_5 rfl rfl ?_
    refine v_bipush (pc := 6) (v := 60) dX4_drift_6 (by decide) ?_
    refine v_icmp_gt (pc := 8) 29 dX4_drift_8 (by decide) (fun c_8 => ?_) (fun c_8 => ?_)
    · skip
      refine v_iconst (pc := 29) (v := -1) dX4_drift_29 (by decide) ?_
      refine v_iret (pc := 30) dX4_drift_30 rfl ⟨rfl, rfl⟩ (Rt.i ?_)
      rw [if_neg c_2, if_pos c_8]
    · skip
      refine v_iload_n (pc := 11) 3 dX4_drift_11 rfl rfl ?_
      refine v_callS (pc := 12) (rest := []) [] lk_531 (c_X4_isYesNo l E wh) dX4_drift_12 rfl rfl (Nat.le_of_ble_eq_true rfl) (by decide) (by decide) rfl (Rt.len rfl) (Rt.go ?_)
      refine v_w (ws' := [(y0, .inr (4, [.ref a0, .ref yi, .ref yk, .ref l0, .ref t0, .ref yn, .ref yt, .int (nI se), .ref ys, .int (tn), .ref ym])), (a0, .inr (2, [.int (nI nt), .int (nI pp), .int (nI rl), .int (hm), .int (sp), .int (td), .int (dt), .ref ao, .ref aw, .ref an, .ref ab, .ref av])), (ao, .inl (E.2.1 1, 8, .inl (on))), (aw, .inl (E.2.1 1, 8, .inl (wr))), (an, .inl (E.2.1 1, 8, .inl (nd))), (ab, .inl (E.2.1 1, 8, .inl (br)))]) rfl ?_
      refine v_st (st' := [.int (if wh = 0 ∨ wh = 1 then 1 else 0)]) rfl ?_
      refine v_ifB_eq (pc := 15) 29 dX4_drift_15 (by decide) (fun c_15 => ?_) (fun c_15 => ?_)
      · skip
        refine v_iconst (pc := 29) (v := -1) dX4_drift_29 (by decide) ?_
        refine v_iret (pc := 30) dX4_drift_30 rfl ⟨rfl, rfl⟩ (Rt.i ?_)
        rw [if_neg c_2, if_neg c_8, if_neg c_15]
      · skip
        refine v_aload_n (pc := 18) 0 dX4_drift_18 rfl rfl ?_
        refine gf_240 (pc := 19) 0 dX4_drift_19 rfl rfl ?_
        refine gf_90 (pc := 22) 1 dX4_drift_22 rfl rfl ?_
        refine v_iconst (pc := 25) (v := 1) dX4_drift_25 (by decide) ?_
        refine v_cmpN_ge (pc := 26) (a := nt) (b := 1) 31 dX4_drift_26 (by decide) (by omega) (by omega) (fun c_26 => ?_) (fun c_26 => ?_)
        · skip
          obtain ⟨m, hm60, rfl⟩ := le_ex (b := 60) (fun z => c_2 (Int32.lt_trans z (by decide))) c_8 (by decide)
          have hmc : (nI m).toNatClampNeg = m := nI_clamp (by omega)
          refine v_iload_n (pc := 31) 1 dX4_drift_31 rfl rfl ?_
          refine v_istore (pc := 32) (lv' := [(4, .int (sd)), (0, .ref y0), (1, .int (sd)), (2, .int ((nI m))), (3, .int (wh))]) dX4_drift_32 (by decide) rfl ?_
          refine v_aload_n (pc := 34) 1 dX4_drift_34 rfl rfl ?_
          refine gf_240 (pc := 35) 0 dX4_drift_35 rfl rfl ?_
          refine gf_107 (pc := 38) 1 dX4_drift_38 rfl rfl ?_
          refine v_istore (pc := 41) (lv' := [(5, .int (td)), (4, .int (sd)), (0, .ref y0), (1, .int (sd)), (2, .int ((nI m))), (3, .int (wh))]) dX4_drift_41 (by decide) rfl ?_
          refine v_iconst (pc := 43) (v := 0) dX4_drift_43 (by decide) ?_
          refine v_istore (pc := 44) (lv' := [(6, .int (0)), (5, .int (td)), (4, .int (sd)), (0, .ref y0), (1, .int (sd)), (2, .int ((nI m))), (3, .int (wh))]) dX4_drift_44 (by decide) rfl ?_
          refine v_iconst (pc := 46) (v := 0) dX4_drift_46 (by decide) ?_
          refine v_istore (pc := 47) (lv' := [(7, .int (0)), (6, .int (0)), (5, .int (td)), (4, .int (sd)), (0, .ref y0), (1, .int (sd)), (2, .int ((nI m))), (3, .int (wh))]) dX4_drift_47 (by decide) rfl ?_
          have loop_49 : ∀ (D_49 : Nat) (i : Nat) (s : Int32) (t : Int32) (a : Nat), m - i < D_49 → (i ≤ m) → (a ≤ i) → ((s, t, a) = drK (outc rl hm sp on wr nd br) nt sd td i) → V l E RX4 cX4_drift 8 (Option.some FieldType.int) "drift" ({ frames := 3, cells := 0, slots := 0, locals := 66 }) [(y0, .inr (4, [.ref a0, .ref yi, .ref yk, .ref l0, .ref t0, .ref yn, .ref yt, .int (nI se), .ref ys, .int (tn), .ref ym])), (a0, .inr (2, [.int (nI nt), .int (nI pp), .int (nI rl), .int (hm), .int (sp), .int (td), .int (dt), .ref ao, .ref aw, .ref an, .ref ab, .ref av])), (ao, .inl (E.2.1 1, 8, .inl (on))), (aw, .inl (E.2.1 1, 8, .inl (wr))), (an, .inl (E.2.1 1, 8, .inl (nd))), (ab, .inl (E.2.1 1, 8, .inl (br)))] 0 0 (Rt (some (.int (if (nI m) < 1 then -1 else if 60 < (nI m) then -1 else if wh = 0 ∨ wh = 1 then (if wh = 0 then (drK (outc rl hm sp on wr nd br) nt sd td (nI m).toNatClampNeg).2.1 else nI (drK (outc rl hm sp on wr nd br) nt sd td (nI m).toNatClampNeg).2.2) else -1))) [(y0, .inr (4, [.ref a0, .ref yi, .ref yk, .ref l0, .ref t0, .ref yn, .ref yt, .int (nI se), .ref ys, .int (tn), .ref ym])), (a0, .inr (2, [.int (nI nt), .int (nI pp), .int (nI rl), .int (hm), .int (sp), .int (td), .int (dt), .ref ao, .ref aw, .ref an, .ref ab, .ref av])), (ao, .inl (E.2.1 1, 8, .inl (on))), (aw, .inl (E.2.1 1, 8, .inl (wr))), (an, .inl (E.2.1 1, 8, .inl (nd))), (ab, .inl (E.2.1 1, 8, .inl (br)))]) 0 0 49 [(7, .int (nI i)), (4, .int (s)), (5, .int (t)), (6, .int (nI a)), (0, .ref y0), (1, .int (sd)), (2, .int (nI m)), (3, .int (wh))] [] [(y0, .inr (4, [.ref a0, .ref yi, .ref yk, .ref l0, .ref t0, .ref yn, .ref yt, .int (nI se), .ref ys, .int (tn), .ref ym])), (a0, .inr (2, [.int (nI nt), .int (nI pp), .int (nI rl), .int (hm), .int (sp), .int (td), .int (dt), .ref ao, .ref aw, .ref an, .ref ab, .ref av])), (ao, .inl (E.2.1 1, 8, .inl (on))), (aw, .inl (E.2.1 1, 8, .inl (wr))), (an, .inl (E.2.1 1, 8, .inl (nd))), (ab, .inl (E.2.1 1, 8, .inl (br)))] := by
            intro D_49
            induction D_49 with
            | zero => intro i s t a h; exact absurd h (Nat.not_lt_zero _)
            | succ D_49 ih_49 =>
              intro i s t a hmu_49 h_49_0 h_49_1 h_49_2
              refine v_iload (pc := 49) 0 dX4_drift_49 rfl ?_
              refine v_iload_n (pc := 51) 6 dX4_drift_51 rfl rfl ?_
              refine v_cmpN_ge (pc := 52) (a := i) (b := m) 124 dX4_drift_52 (by decide) (by omega) (by omega) (fun c_52 => ?_) (fun c_52 => ?_)
              · skip
                refine v_iload_n (pc := 124) 7 dX4_drift_124 rfl rfl ?_
                refine v_if_ne (pc := 125) 133 dX4_drift_125 (by decide) (fun c_125 => ?_) (fun c_125 => ?_)
                · skip
                  refine v_iload (pc := 133) 3 dX4_drift_133 rfl ?_
                  refine v_iret (pc := 135) dX4_drift_135 rfl ⟨rfl, rfl⟩ (Rt.i ?_)
                  obtain rfl : i = m := by omega
                  rw [if_neg c_2, if_neg c_8, if_pos c_15, hmc, ← h_49_2, if_neg c_125]
                · skip
                  refine v_iload (pc := 128) 2 dX4_drift_128 rfl ?_
                  refine v_goto (pc := 130) 135 dX4_drift_130 (by decide) ?_
                  refine v_iret (pc := 135) dX4_drift_135 rfl ⟨rfl, rfl⟩ (Rt.i ?_)
                  obtain rfl : i = m := by omega
                  rw [if_neg c_2, if_neg c_8, if_pos c_15, hmc, ← h_49_2, if_pos c_125]
              · skip
                refine v_iload (pc := 55) 1 dX4_drift_55 rfl ?_
                refine v_ldc (pc := 57) dX4_drift_57 tb_719 ?_
                refine v_imul (pc := 59) dX4_drift_59 ?_
                refine v_sipush (pc := 60) (v := 12345) dX4_drift_60 (by decide) ?_
                refine v_iadd (pc := 63) dX4_drift_63 ?_
                refine v_st (st' := [.int (drS s)]) rfl ?_
                refine v_istore (pc := 64) (lv' := [(4, .int (drS s)), (7, .int (nI i)), (5, .int (t)), (6, .int (nI a)), (0, .ref y0), (1, .int (sd)), (2, .int (nI m)), (3, .int (wh))]) dX4_drift_64 (by decide) rfl ?_
                refine v_iload (pc := 66) 2 dX4_drift_66 rfl ?_
                refine v_iconst (pc := 68) (v := 1) dX4_drift_68 (by decide) ?_
                refine v_iload (pc := 69) 0 dX4_drift_69 rfl ?_
                refine v_bipush (pc := 71) (v := 16) dX4_drift_71 (by decide) ?_
                refine v_iushr (pc := 73) dX4_drift_73 ?_
                refine v_sipush (pc := 74) (v := 32767) dX4_drift_74 (by decide) ?_
                refine v_iand (pc := 77) dX4_drift_77 ?_
                refine v_st (st' := [.int (drB (drS s)), .int (1), .int (t)]) rfl ?_
                refine v_aload_n (pc := 78) 4 dX4_drift_78 rfl rfl ?_
                refine gf_240 (pc := 79) 0 dX4_drift_79 rfl rfl ?_
                refine gf_90 (pc := 82) 1 dX4_drift_82 rfl rfl ?_
                refine v_irem (pc := 85) dX4_drift_85 (nI_ne0 (by omega) (by omega)) ?_
                refine v_st (st' := [.int (drM (drS s) nt), .int (1), .int (t)]) rfl ?_
                refine v_ishl (pc := 86) dX4_drift_86 ?_
                refine v_ixor (pc := 87) dX4_drift_87 ?_
                refine v_istore (pc := 88) (lv' := [(5, .int ((t) ^^^ ((1 : Int32) <<< ((drM (drS s) nt) &&& 31)))), (4, .int (drS s)), (7, .int (nI i)), (6, .int (nI a)), (0, .ref y0), (1, .int (sd)), (2, .int (nI m)), (3, .int (wh))]) dX4_drift_88 (by decide) rfl ?_
                refine v_aload_n (pc := 90) 4 dX4_drift_90 rfl rfl ?_
                refine gf_240 (pc := 91) 0 dX4_drift_91 rfl rfl ?_
                refine v_iload (pc := 94) 0 dX4_drift_94 rfl ?_
                refine v_callV (pc := 96) (rest := []) [1, 2, 3, 4, 5] 1 lk_518 (c_X2_outcome l E a0 ao aw an ab av nt pp rl hm sp td dt on wr nd br ((t) ^^^ ((1 : Int32) <<< ((drM (drS s) nt) &&& 31))) (by first | assumption | omega)) dX4_drift_96 rfl rfl (Nat.le_of_ble_eq_true rfl) (by decide) rfl rfl rfl (by decide) rfl (Rt.len rfl) (Rt.go ?_)
                refine v_w (ws' := [(y0, .inr (4, [.ref a0, .ref yi, .ref yk, .ref l0, .ref t0, .ref yn, .ref yt, .int (nI se), .ref ys, .int (tn), .ref ym])), (a0, .inr (2, [.int (nI nt), .int (nI pp), .int (nI rl), .int (hm), .int (sp), .int (td), .int (dt), .ref ao, .ref aw, .ref an, .ref ab, .ref av])), (ao, .inl (E.2.1 1, 8, .inl (on))), (aw, .inl (E.2.1 1, 8, .inl (wr))), (an, .inl (E.2.1 1, 8, .inl (nd))), (ab, .inl (E.2.1 1, 8, .inl (br)))]) rfl ?_
                refine v_st (st' := [.int (outc rl hm sp on wr nd br ((t) ^^^ ((1 : Int32) <<< ((drM (drS s) nt) &&& 31))))]) rfl ?_
                refine v_istore (pc := 99) (lv' := [(5, .int (outc rl hm sp on wr nd br ((t) ^^^ ((1 : Int32) <<< ((drM (drS s) nt) &&& 31))))), (4, .int (drS s)), (7, .int (nI i)), (6, .int (nI a)), (0, .ref y0), (1, .int (sd)), (2, .int (nI m)), (3, .int (wh))]) dX4_drift_99 (by decide) rfl ?_
                refine v_aload_n (pc := 101) 4 dX4_drift_101 rfl rfl ?_
                refine gf_240 (pc := 102) 0 dX4_drift_102 rfl rfl ?_
                refine v_iload (pc := 105) 0 dX4_drift_105 rfl ?_
                refine v_callV (pc := 107) (rest := []) [1, 2, 3, 4, 5] 1 lk_518 (c_X2_outcome l E a0 ao aw an ab av nt pp rl hm sp td dt on wr nd br (outc rl hm sp on wr nd br ((t) ^^^ ((1 : Int32) <<< ((drM (drS s) nt) &&& 31)))) (by first | assumption | omega)) dX4_drift_107 rfl rfl (Nat.le_of_ble_eq_true rfl) (by decide) rfl rfl rfl (by decide) rfl (Rt.len rfl) (Rt.go ?_)
                refine v_w (ws' := [(y0, .inr (4, [.ref a0, .ref yi, .ref yk, .ref l0, .ref t0, .ref yn, .ref yt, .int (nI se), .ref ys, .int (tn), .ref ym])), (a0, .inr (2, [.int (nI nt), .int (nI pp), .int (nI rl), .int (hm), .int (sp), .int (td), .int (dt), .ref ao, .ref aw, .ref an, .ref ab, .ref av])), (ao, .inl (E.2.1 1, 8, .inl (on))), (aw, .inl (E.2.1 1, 8, .inl (wr))), (an, .inl (E.2.1 1, 8, .inl (nd))), (ab, .inl (E.2.1 1, 8, .inl (br)))]) rfl ?_
                refine v_st (st' := [.int (outc rl hm sp on wr nd br (outc rl hm sp on wr nd br ((t) ^^^ ((1 : Int32) <<< ((drM (drS s) nt) &&& 31)))))]) rfl ?_
                refine v_iload (pc := 110) 0 dX4_drift_110 rfl ?_
                refine v_icmp_ne (pc := 112) 118 dX4_drift_112 (by decide) (fun c_112 => ?_) (fun c_112 => ?_)
                · skip
                  refine v_iinc (pc := 118) (v := nI (i + 1)) (lv' := [(7, .int (nI (i + 1))), (5, .int (outc rl hm sp on wr nd br ((t) ^^^ ((1 : Int32) <<< ((drM (drS s) nt) &&& 31))))), (4, .int (drS s)), (6, .int (nI a)), (0, .ref y0), (1, .int (sd)), (2, .int (nI m)), (3, .int (wh))]) 2 dX4_drift_118 rfl (nI_inc (i) 1) (by decide) rfl ?_
                  refine v_goto (pc := 121) 49 dX4_drift_121 (by decide) ?_
                  refine v_lv (lv' := [(7, .int (nI (i + 1))), (4, .int (drS s)), (5, .int (outc rl hm sp on wr nd br ((t) ^^^ ((1 : Int32) <<< ((drM (drS s) nt) &&& 31))))), (6, .int (nI a)), (0, .ref y0), (1, .int (sd)), (2, .int (nI m)), (3, .int (wh))]) [0, 2, 1, 3, 4, 5, 6, 7] rfl ?_
                  refine ih_49 (i + 1) (drS s) (outc rl hm sp on wr nd br ((t) ^^^ ((1 : Int32) <<< ((drM (drS s) nt) &&& 31)))) a (by omega) ?_ ?_ ?_
                  · omega
                  · omega
                  · simp only [drK]; rw [← h_49_2]; simp only []; rw [if_neg c_112, Nat.add_zero]
                · skip
                  refine v_iinc (pc := 115) (v := nI (a + 1)) (lv' := [(6, .int (nI (a + 1))), (5, .int (outc rl hm sp on wr nd br ((t) ^^^ ((1 : Int32) <<< ((drM (drS s) nt) &&& 31))))), (4, .int (drS s)), (7, .int (nI i)), (0, .ref y0), (1, .int (sd)), (2, .int (nI m)), (3, .int (wh))]) 3 dX4_drift_115 rfl (nI_inc (a) 1) (by decide) rfl ?_
                  refine v_iinc (pc := 118) (v := nI (i + 1)) (lv' := [(7, .int (nI (i + 1))), (6, .int (nI (a + 1))), (5, .int (outc rl hm sp on wr nd br ((t) ^^^ ((1 : Int32) <<< ((drM (drS s) nt) &&& 31))))), (4, .int (drS s)), (0, .ref y0), (1, .int (sd)), (2, .int (nI m)), (3, .int (wh))]) 3 dX4_drift_118 rfl (nI_inc (i) 1) (by decide) rfl ?_
                  refine v_goto (pc := 121) 49 dX4_drift_121 (by decide) ?_
                  refine v_lv (lv' := [(7, .int (nI (i + 1))), (4, .int (drS s)), (5, .int (outc rl hm sp on wr nd br ((t) ^^^ ((1 : Int32) <<< ((drM (drS s) nt) &&& 31))))), (6, .int (nI (a + 1))), (0, .ref y0), (1, .int (sd)), (2, .int (nI m)), (3, .int (wh))]) [0, 3, 2, 1, 4, 5, 6, 7] rfl ?_
                  refine ih_49 (i + 1) (drS s) (outc rl hm sp on wr nd br ((t) ^^^ ((1 : Int32) <<< ((drM (drS s) nt) &&& 31)))) (a + 1) (by omega) ?_ ?_ ?_
                  · omega
                  · omega
                  · simp only [drK]; rw [← h_49_2]; simp only []; rw [if_pos c_112]
          refine v_lv (lv' := [(7, .int (nI 0)), (4, .int (sd)), (5, .int (td)), (6, .int (nI 0)), (0, .ref y0), (1, .int (sd)), (2, .int (nI m)), (3, .int (wh))]) [0, 3, 2, 1, 4, 5, 6, 7] rfl ?_
          refine loop_49 ((m - 0) + 1) 0 sd td 0 (Nat.lt_succ_self _) ?_ ?_ ?_
          · omega
          · omega
          · rfl
        · skip
          refine v_iconst (pc := 29) (v := -1) dX4_drift_29 (by decide) ?_
          refine v_iret (pc := 30) dX4_drift_30 rfl ⟨rfl, rfl⟩ (Rt.i ?_)
          omega
theorem c_X4_imagesKept (l : Launch) (E : VE) (y0 : Nat) (yi : Nat) (yk : Nat) (t0 : Nat) (yn : Nat) (yt : Nat) (ys : Nat) (ym : Nat) (se : Nat) (tn : Int32) (l0 : Nat) (a0 : Nat) (kp : Nat → Int32) : Ct l E yX4_imagesKept cX4_imagesKept 3 (Option.some FieldType.int) 0 0 0 0 [.ref y0] [(y0, .inr (4, [.ref a0, .ref yi, .ref yk, .ref l0, .ref t0, .ref yn, .ref yt, .int (nI se), .ref ys, .int (tn), .ref ym])), (yk, .inl (E.2.1 3, 2, .inl (kp)))] (Rt (some (.int (nI (kcN kp 2)))) [(y0, .inr (4, [.ref a0, .ref yi, .ref yk, .ref l0, .ref t0, .ref yn, .ref yt, .int (nI se), .ref ys, .int (tn), .ref ym])), (yk, .inl (E.2.1 3, 2, .inl (kp)))]) := by
  refine Ct.of (own := RX4) (nm := "imagesKept") (lv := [(0, .ref y0)]) (by decide) rfl rfl (Nat.le_of_ble_eq_true rfl) rfl ?_
  refine v_iconst (pc := 0) (v := 0) dX4_imagesKept_0 (by decide) ?_
  refine v_istore_n (pc := 1) (lv' := [(1, .int (0)), (0, .ref y0)]) dX4_imagesKept_1 rfl (by decide) rfl ?_
  refine v_iconst (pc := 2) (v := 0) dX4_imagesKept_2 (by decide) ?_
  refine v_istore_n (pc := 3) (lv' := [(2, .int (0)), (1, .int (0)), (0, .ref y0)]) dX4_imagesKept_3 rfl (by decide) rfl ?_
  have loop_4 : ∀ (D_4 : Nat) (i : Nat) (a : Nat), 2 - i < D_4 → (i ≤ 2) → (a = kcN kp i) → V l E RX4 cX4_imagesKept 3 (Option.some FieldType.int) "imagesKept" ({ frames := 0, cells := 0, slots := 0, locals := 0 }) [(y0, .inr (4, [.ref a0, .ref yi, .ref yk, .ref l0, .ref t0, .ref yn, .ref yt, .int (nI se), .ref ys, .int (tn), .ref ym])), (yk, .inl (E.2.1 3, 2, .inl (kp)))] 0 0 (Rt (some (.int (nI (kcN kp 2)))) [(y0, .inr (4, [.ref a0, .ref yi, .ref yk, .ref l0, .ref t0, .ref yn, .ref yt, .int (nI se), .ref ys, .int (tn), .ref ym])), (yk, .inl (E.2.1 3, 2, .inl (kp)))]) 0 0 4 [(2, .int (nI i)), (1, .int (nI a)), (0, .ref y0)] [] [(y0, .inr (4, [.ref a0, .ref yi, .ref yk, .ref l0, .ref t0, .ref yn, .ref yt, .int (nI se), .ref ys, .int (tn), .ref ym])), (yk, .inl (E.2.1 3, 2, .inl (kp)))] := by
    intro D_4
    induction D_4 with
    | zero => intro i a h; exact absurd h (Nat.not_lt_zero _)
    | succ D_4 ih_4 =>
      intro i a hmu_4 h_4_0 h_4_1
      refine v_iload_n (pc := 4) 0 dX4_imagesKept_4 rfl rfl ?_
      refine v_iconst (pc := 5) (v := 2) dX4_imagesKept_5 (by decide) ?_
      refine v_cmpN_ge (pc := 6) (a := i) (b := 2) 27 dX4_imagesKept_6 (by decide) (by omega) (by omega) (fun c_6 => ?_) (fun c_6 => ?_)
      · skip
        refine v_iload_n (pc := 27) 1 dX4_imagesKept_27 rfl rfl ?_
        refine v_iret (pc := 28) dX4_imagesKept_28 rfl ⟨rfl, rfl⟩ (Rt.i ?_)
        obtain rfl : i = 2 := by omega
        rw [h_4_1]
      · skip
        refine v_aload_n (pc := 9) 2 dX4_imagesKept_9 rfl rfl ?_
        refine gf_242 (pc := 10) 0 dX4_imagesKept_10 rfl rfl ?_
        refine v_iload_n (pc := 13) 0 dX4_imagesKept_13 rfl rfl ?_
        refine v_zaldN (pc := 14) 1 3 (i) dX4_imagesKept_14 rfl rfl rfl (by omega) (by decide) ?_
        refine v_if_eq (pc := 15) 21 dX4_imagesKept_15 (by decide) (fun c_15 => ?_) (fun c_15 => ?_)
        · skip
          refine v_iinc (pc := 21) (v := nI (i + 1)) (lv' := [(2, .int (nI (i + 1))), (1, .int (nI a)), (0, .ref y0)]) 0 dX4_imagesKept_21 rfl (nI_inc (i) 1) (by decide) rfl ?_
          refine v_goto (pc := 24) 4 dX4_imagesKept_24 (by decide) ?_
          refine v_lv (lv' := [(2, .int (nI (i + 1))), (1, .int (nI a)), (0, .ref y0)]) [0, 1, 2] rfl ?_
          refine ih_4 (i + 1) a (by omega) ?_ ?_
          · omega
          · simp only [kcN]; rw [← h_4_1, if_pos c_15, Nat.add_zero]
        · skip
          refine v_iinc (pc := 18) (v := nI (a + 1)) (lv' := [(1, .int (nI (a + 1))), (2, .int (nI i)), (0, .ref y0)]) 1 dX4_imagesKept_18 rfl (nI_inc (a) 1) (by decide) rfl ?_
          refine v_iinc (pc := 21) (v := nI (i + 1)) (lv' := [(2, .int (nI (i + 1))), (1, .int (nI (a + 1))), (0, .ref y0)]) 1 dX4_imagesKept_21 rfl (nI_inc (i) 1) (by decide) rfl ?_
          refine v_goto (pc := 24) 4 dX4_imagesKept_24 (by decide) ?_
          refine v_lv (lv' := [(2, .int (nI (i + 1))), (1, .int (nI (a + 1))), (0, .ref y0)]) [0, 1, 2] rfl ?_
          refine ih_4 (i + 1) (a + 1) (by omega) ?_ ?_
          · omega
          · simp only [kcN]; rw [← h_4_1, if_neg c_15]
  refine v_lv (lv' := [(2, .int (nI 0)), (1, .int (nI 0)), (0, .ref y0)]) [0, 1, 2] rfl ?_
  refine loop_4 ((2 - 0) + 1) 0 0 (Nat.lt_succ_self _) ?_ ?_
  · omega
  · rfl
theorem c_X4_torn (l : Launch) (E : VE) (y0 : Nat) (yi : Nat) (yk : Nat) (t0 : Nat) (yn : Nat) (yt : Nat) (ys : Nat) (ym : Nat) (se : Nat) (tn : Int32) (l0 : Nat) (a0 : Nat) : Ct l E yX4_torn cX4_torn 1 (Option.some FieldType.int) 0 0 0 0 [.ref y0] [(y0, .inr (4, [.ref a0, .ref yi, .ref yk, .ref l0, .ref t0, .ref yn, .ref yt, .int (nI se), .ref ys, .int (tn), .ref ym]))] (Rt (some (.int (tn))) [(y0, .inr (4, [.ref a0, .ref yi, .ref yk, .ref l0, .ref t0, .ref yn, .ref yt, .int (nI se), .ref ys, .int (tn), .ref ym]))]) := by
  refine Ct.of (own := RX4) (nm := "torn") (lv := [(0, .ref y0)]) (by decide) rfl rfl (Nat.le_of_ble_eq_true rfl) rfl ?_
  refine v_aload_n (pc := 0) 0 dX4_torn_0 rfl rfl ?_
  refine gf_249 (pc := 1) 0 dX4_torn_1 rfl rfl ?_
  refine v_iret (pc := 4) dX4_torn_4 rfl ⟨rfl, rfl⟩ (Rt.i ?_)
  rfl
theorem c_X4_count (l : Launch) (E : VE) (y0 : Nat) (yi : Nat) (yk : Nat) (t0 : Nat) (yn : Nat) (yt : Nat) (ys : Nat) (ym : Nat) (se : Nat) (tn : Int32) (l0 : Nat) (a0 : Nat) (ao : Nat) (aw : Nat) (an : Nat) (ab : Nat) (av : Nat) (nt : Nat) (pp : Nat) (rl : Nat) (hm : Int32) (sp : Int32) (td : Int32) (dt : Int32) (on : Nat → Int32) (nd : Nat → Int32) (br : Nat → Int32) (b0 : Nat) (tb : Nat) (tl : Nat) (tf : Int32) (tp : Int32) (tx : Int32) (tk : Int32) (ts : Int32) (tv : Int32) (th : Int32) (tN : Int32) (tO : Int32) (tpd : Int32) (kp : Nat → Int32) (r0 : Nat) (rc : Nat) (sz : Nat) (la : Int32) (sf : Nat → Option Nat) (x : Int32) (h_rl : rl ≤ 8) (h_sf : sf 0 = some r0) : Ct l E yX4_count cX4_count 2 (Option.some FieldType.int) 3 66 0 0 [.ref y0, .int (x)] [(y0, .inr (4, [.ref a0, .ref yi, .ref yk, .ref l0, .ref t0, .ref yn, .ref yt, .int (nI se), .ref ys, .int (tn), .ref ym])), (a0, .inr (2, [.int (nI nt), .int (nI pp), .int (nI rl), .int (hm), .int (sp), .int (td), .int (dt), .ref ao, .ref aw, .ref an, .ref ab, .ref av])), (ao, .inl (E.2.1 1, 8, .inl (on))), (an, .inl (E.2.1 1, 8, .inl (nd))), (ab, .inl (E.2.1 1, 8, .inl (br))), (yk, .inl (E.2.1 3, 2, .inl (kp))), (t0, .inr (3, [.ref b0, .int (nI tl), .int (tf), .int (tp), .ref tb, .int (tx), .int (tk), .int (ts), .int (tv), .int (th), .int (tN), .int (tO), .int (tpd)])), (ys, .inl (E.2.1 4, 4, .inr (.inr (.inr (.inr (sf)))))), (r0, .inr (1, [.int (la), .int (nI sz), .ref rc]))] (Rt (some (.int (if x = 0 then nI se else if x = 1 then nI (kcN kp 2) else if x = 2 then nI tl else if x = 3 then (if la = -1 then -4 else nI sz) else if x = 4 then bci td else if x = 5 then bci (orF (hp hm on nd br td) (fun k => nI k) rl) else -1))) [(y0, .inr (4, [.ref a0, .ref yi, .ref yk, .ref l0, .ref t0, .ref yn, .ref yt, .int (nI se), .ref ys, .int (tn), .ref ym])), (a0, .inr (2, [.int (nI nt), .int (nI pp), .int (nI rl), .int (hm), .int (sp), .int (td), .int (dt), .ref ao, .ref aw, .ref an, .ref ab, .ref av])), (ao, .inl (E.2.1 1, 8, .inl (on))), (an, .inl (E.2.1 1, 8, .inl (nd))), (ab, .inl (E.2.1 1, 8, .inl (br))), (yk, .inl (E.2.1 3, 2, .inl (kp))), (t0, .inr (3, [.ref b0, .int (nI tl), .int (tf), .int (tp), .ref tb, .int (tx), .int (tk), .int (ts), .int (tv), .int (th), .int (tN), .int (tO), .int (tpd)])), (ys, .inl (E.2.1 4, 4, .inr (.inr (.inr (.inr (sf)))))), (r0, .inr (1, [.int (la), .int (nI sz), .ref rc]))]) := by
  refine Ct.of (own := RX4) (nm := "count") (lv := [(0, .ref y0), (1, .int (x))]) (by decide) rfl rfl (Nat.le_of_ble_eq_true rfl) rfl ?_
  refine v_iload_n (pc := 0) 1 dX4_count_0 rfl rfl ?_
  by_cases c_1_0 : x = 0
  · skip
    refine v_tableIn (pc := 1) (off := 39) 40 dX4_count_1 (by rw [c_1_0]; decide) (by rw [c_1_0]; decide) (by rw [c_1_0]; decide) (by decide) ?_
    refine v_aload_n (pc := 40) 0 dX4_count_40 rfl rfl ?_
    refine gf_247 (pc := 41) 0 dX4_count_41 rfl rfl ?_
    refine v_iret (pc := 44) dX4_count_44 rfl ⟨rfl, rfl⟩ (Rt.i ?_)
    first | simp only [if_pos c_1_0] | rfl
  by_cases c_1_1 : x = 1
  · skip
    refine v_tableIn (pc := 1) (off := 44) 45 dX4_count_1 (by rw [c_1_1]; decide) (by rw [c_1_1]; decide) (by rw [c_1_1]; decide) (by decide) ?_
    refine v_aload_n (pc := 45) 0 dX4_count_45 rfl rfl ?_
    refine v_callV (pc := 46) (rest := []) [0, 5] 0 lk_776 (c_X4_imagesKept l E y0 yi yk t0 yn yt ys ym se tn l0 a0 kp) dX4_count_46 rfl rfl (Nat.le_of_ble_eq_true rfl) (by decide) rfl rfl rfl (by decide) rfl (Rt.len rfl) (Rt.go ?_)
    refine v_w (ws' := [(y0, .inr (4, [.ref a0, .ref yi, .ref yk, .ref l0, .ref t0, .ref yn, .ref yt, .int (nI se), .ref ys, .int (tn), .ref ym])), (a0, .inr (2, [.int (nI nt), .int (nI pp), .int (nI rl), .int (hm), .int (sp), .int (td), .int (dt), .ref ao, .ref aw, .ref an, .ref ab, .ref av])), (ao, .inl (E.2.1 1, 8, .inl (on))), (an, .inl (E.2.1 1, 8, .inl (nd))), (ab, .inl (E.2.1 1, 8, .inl (br))), (yk, .inl (E.2.1 3, 2, .inl (kp))), (t0, .inr (3, [.ref b0, .int (nI tl), .int (tf), .int (tp), .ref tb, .int (tx), .int (tk), .int (ts), .int (tv), .int (th), .int (tN), .int (tO), .int (tpd)])), (ys, .inl (E.2.1 4, 4, .inr (.inr (.inr (.inr (sf)))))), (r0, .inr (1, [.int (la), .int (nI sz), .ref rc]))]) rfl ?_
    refine v_st (st' := [.int (nI (kcN kp 2))]) rfl ?_
    refine v_iret (pc := 49) dX4_count_49 rfl ⟨rfl, rfl⟩ (Rt.i ?_)
    first | simp only [if_neg c_1_0, if_pos c_1_1] | rfl
  by_cases c_1_2 : x = 2
  · skip
    refine v_tableIn (pc := 1) (off := 49) 50 dX4_count_1 (by rw [c_1_2]; decide) (by rw [c_1_2]; decide) (by rw [c_1_2]; decide) (by decide) ?_
    refine v_aload_n (pc := 50) 0 dX4_count_50 rfl rfl ?_
    refine gf_244 (pc := 51) 0 dX4_count_51 rfl rfl ?_
    refine gf_179 (pc := 54) 6 dX4_count_54 rfl rfl ?_
    refine v_iret (pc := 57) dX4_count_57 rfl ⟨rfl, rfl⟩ (Rt.i ?_)
    first | simp only [if_neg c_1_0, if_neg c_1_1, if_pos c_1_2] | rfl
  by_cases c_1_3 : x = 3
  · skip
    refine v_tableIn (pc := 1) (off := 57) 58 dX4_count_1 (by rw [c_1_3]; decide) (by rw [c_1_3]; decide) (by rw [c_1_3]; decide) (by decide) ?_
    refine v_aload_n (pc := 58) 0 dX4_count_58 rfl rfl ?_
    refine gf_248 (pc := 59) 0 dX4_count_59 rfl rfl ?_
    refine v_iconst (pc := 62) (v := 0) dX4_count_62 (by decide) ?_
    refine v_aaldN (pc := 63) (r := r0) 7 4 (0) dX4_count_63 rfl rfl rfl (by decide) (by decide) h_sf ?_
    refine gf_229 (pc := 64) 8 dX4_count_64 rfl rfl ?_
    refine v_iconst (pc := 67) (v := -1) dX4_count_67 (by decide) ?_
    refine v_icmp_ne (pc := 68) 76 dX4_count_68 (by decide) (fun c_68 => ?_) (fun c_68 => ?_)
    · skip
      refine v_aload_n (pc := 76) 0 dX4_count_76 rfl rfl ?_
      refine gf_248 (pc := 77) 0 dX4_count_77 rfl rfl ?_
      refine v_iconst (pc := 80) (v := 0) dX4_count_80 (by decide) ?_
      refine v_aaldN (pc := 81) (r := r0) 7 4 (0) dX4_count_81 rfl rfl rfl (by decide) (by decide) h_sf ?_
      refine gf_231 (pc := 82) 8 dX4_count_82 rfl rfl ?_
      refine v_iret (pc := 85) dX4_count_85 rfl ⟨rfl, rfl⟩ (Rt.i ?_)
      rw [if_neg c_1_0, if_neg c_1_1, if_neg c_1_2, if_pos c_1_3, if_neg c_68]
    · skip
      refine v_bipush (pc := 71) (v := -4) dX4_count_71 (by decide) ?_
      refine v_goto (pc := 73) 85 dX4_count_73 (by decide) ?_
      refine v_iret (pc := 85) dX4_count_85 rfl ⟨rfl, rfl⟩ (Rt.i ?_)
      rw [if_neg c_1_0, if_neg c_1_1, if_neg c_1_2, if_pos c_1_3, if_pos c_68]
  by_cases c_1_4 : x = 4
  · skip
    refine v_tableIn (pc := 1) (off := 85) 86 dX4_count_1 (by rw [c_1_4]; decide) (by rw [c_1_4]; decide) (by rw [c_1_4]; decide) (by decide) ?_
    refine v_aload_n (pc := 86) 0 dX4_count_86 rfl rfl ?_
    refine gf_240 (pc := 87) 0 dX4_count_87 rfl rfl ?_
    refine gf_107 (pc := 90) 1 dX4_count_90 rfl rfl ?_
    refine v_callS (pc := 93) (rest := []) [] lk_636 (c_J6_bitCount_0f7a4 l E td) dX4_count_93 rfl rfl (Nat.le_of_ble_eq_true rfl) (by decide) (by decide) rfl (Rt.len rfl) (Rt.go ?_)
    refine v_w (ws' := [(y0, .inr (4, [.ref a0, .ref yi, .ref yk, .ref l0, .ref t0, .ref yn, .ref yt, .int (nI se), .ref ys, .int (tn), .ref ym])), (a0, .inr (2, [.int (nI nt), .int (nI pp), .int (nI rl), .int (hm), .int (sp), .int (td), .int (dt), .ref ao, .ref aw, .ref an, .ref ab, .ref av])), (ao, .inl (E.2.1 1, 8, .inl (on))), (an, .inl (E.2.1 1, 8, .inl (nd))), (ab, .inl (E.2.1 1, 8, .inl (br))), (yk, .inl (E.2.1 3, 2, .inl (kp))), (t0, .inr (3, [.ref b0, .int (nI tl), .int (tf), .int (tp), .ref tb, .int (tx), .int (tk), .int (ts), .int (tv), .int (th), .int (tN), .int (tO), .int (tpd)])), (ys, .inl (E.2.1 4, 4, .inr (.inr (.inr (.inr (sf)))))), (r0, .inr (1, [.int (la), .int (nI sz), .ref rc]))]) rfl ?_
    refine v_st (st' := [.int (bci td)]) rfl ?_
    refine v_iret (pc := 96) dX4_count_96 rfl ⟨rfl, rfl⟩ (Rt.i ?_)
    first | simp only [if_neg c_1_0, if_neg c_1_1, if_neg c_1_2, if_neg c_1_3, if_pos c_1_4] | rfl
  by_cases c_1_5 : x = 5
  · skip
    refine v_tableIn (pc := 1) (off := 96) 97 dX4_count_1 (by rw [c_1_5]; decide) (by rw [c_1_5]; decide) (by rw [c_1_5]; decide) (by decide) ?_
    refine v_aload_n (pc := 97) 0 dX4_count_97 rfl rfl ?_
    refine gf_240 (pc := 98) 0 dX4_count_98 rfl rfl ?_
    refine v_aload_n (pc := 101) 0 dX4_count_101 rfl rfl ?_
    refine gf_240 (pc := 102) 0 dX4_count_102 rfl rfl ?_
    refine gf_107 (pc := 105) 1 dX4_count_105 rfl rfl ?_
    refine v_callV (pc := 108) (rest := []) [1, 2, 3, 4] 1 lk_780 (c_X2_holding l E a0 ao aw an ab av nt pp rl hm sp td dt on nd br td (by first | assumption | omega)) dX4_count_108 rfl rfl (Nat.le_of_ble_eq_true rfl) (by decide) rfl rfl rfl (by decide) rfl (Rt.len rfl) (Rt.go ?_)
    refine v_w (ws' := [(y0, .inr (4, [.ref a0, .ref yi, .ref yk, .ref l0, .ref t0, .ref yn, .ref yt, .int (nI se), .ref ys, .int (tn), .ref ym])), (a0, .inr (2, [.int (nI nt), .int (nI pp), .int (nI rl), .int (hm), .int (sp), .int (td), .int (dt), .ref ao, .ref aw, .ref an, .ref ab, .ref av])), (ao, .inl (E.2.1 1, 8, .inl (on))), (an, .inl (E.2.1 1, 8, .inl (nd))), (ab, .inl (E.2.1 1, 8, .inl (br))), (yk, .inl (E.2.1 3, 2, .inl (kp))), (t0, .inr (3, [.ref b0, .int (nI tl), .int (tf), .int (tp), .ref tb, .int (tx), .int (tk), .int (ts), .int (tv), .int (th), .int (tN), .int (tO), .int (tpd)])), (ys, .inl (E.2.1 4, 4, .inr (.inr (.inr (.inr (sf)))))), (r0, .inr (1, [.int (la), .int (nI sz), .ref rc]))]) rfl ?_
    refine v_st (st' := [.int (orF (hp hm on nd br td) (fun k => nI k) rl)]) rfl ?_
    refine v_callS (pc := 111) (rest := []) [] lk_636 (c_J6_bitCount_0f7a4 l E (orF (hp hm on nd br td) (fun k => nI k) rl)) dX4_count_111 rfl rfl (Nat.le_of_ble_eq_true rfl) (by decide) (by decide) rfl (Rt.len rfl) (Rt.go ?_)
    refine v_w (ws' := [(y0, .inr (4, [.ref a0, .ref yi, .ref yk, .ref l0, .ref t0, .ref yn, .ref yt, .int (nI se), .ref ys, .int (tn), .ref ym])), (a0, .inr (2, [.int (nI nt), .int (nI pp), .int (nI rl), .int (hm), .int (sp), .int (td), .int (dt), .ref ao, .ref aw, .ref an, .ref ab, .ref av])), (ao, .inl (E.2.1 1, 8, .inl (on))), (an, .inl (E.2.1 1, 8, .inl (nd))), (ab, .inl (E.2.1 1, 8, .inl (br))), (yk, .inl (E.2.1 3, 2, .inl (kp))), (t0, .inr (3, [.ref b0, .int (nI tl), .int (tf), .int (tp), .ref tb, .int (tx), .int (tk), .int (ts), .int (tv), .int (th), .int (tN), .int (tO), .int (tpd)])), (ys, .inl (E.2.1 4, 4, .inr (.inr (.inr (.inr (sf)))))), (r0, .inr (1, [.int (la), .int (nI sz), .ref rc]))]) rfl ?_
    refine v_st (st' := [.int (bci (orF (hp hm on nd br td) (fun k => nI k) rl))]) rfl ?_
    refine v_iret (pc := 114) dX4_count_114 rfl ⟨rfl, rfl⟩ (Rt.i ?_)
    first | simp only [if_neg c_1_0, if_neg c_1_1, if_neg c_1_2, if_neg c_1_3, if_neg c_1_4, if_pos c_1_5] | rfl
  refine v_tableOut (pc := 1) 115 dX4_count_1 (sw_out6 c_1_0 c_1_1 c_1_2 c_1_3 c_1_4 c_1_5) (by decide) ?_
  refine v_iconst (pc := 115) (v := -1) dX4_count_115 (by decide) ?_
  refine v_iret (pc := 116) dX4_count_116 rfl ⟨rfl, rfl⟩ (Rt.i ?_)
  first | simp only [if_neg c_1_0, if_neg c_1_1, if_neg c_1_2, if_neg c_1_3, if_neg c_1_4, if_neg c_1_5] | rfl
theorem c_X4_keep (l : Launch) (E : VE) (y0 : Nat) (yi : Nat) (yk : Nat) (t0 : Nat) (yn : Nat) (yt : Nat) (ys : Nat) (ym : Nat) (se : Nat) (tn : Int32) (l0 : Nat) (a0 : Nat) (ao : Nat) (aw : Nat) (an : Nat) (ab : Nat) (av : Nat) (nt : Nat) (pp : Nat) (rl : Nat) (hm : Int32) (sp : Int32) (td : Int32) (dt : Int32) (on : Nat → Int32) (wr : Nat → Int32) (nd : Nat → Int32) (br : Nat → Int32) (wo : Nat → Int32) (kp : Nat → Int32) (mf : Nat → Option Nat) (c0 : Nat) (co : Nat) (cw : Nat) (cn : Nat) (cb : Nat) (cv : Nat) (nt2 : Nat) (pp2 : Nat) (rl2 : Nat) (hm2 : Int32) (sp2 : Int32) (td2 : Int32) (dt2 : Int32) (on2 : Nat → Int32) (wr2 : Nat → Int32) (nd2 : Nat → Int32) (br2 : Nat → Int32) (wo2 : Nat → Int32) (j : Nat) (h_j : j < 2) (h_mf : mf j = some c0) : Ct l E yX4_keep cX4_keep 3 (Option.some FieldType.int) 2 61 0 0 [.ref y0, .int (nI j)] [(y0, .inr (4, [.ref a0, .ref yi, .ref yk, .ref l0, .ref t0, .ref yn, .ref yt, .int (nI se), .ref ys, .int (tn), .ref ym])), (yi, .inl (E.2.1 5, 2, .inr (.inr (.inr (.inr (mf)))))), (yk, .inl (E.2.1 3, 2, .inl (kp))), (a0, .inr (2, [.int (nI nt), .int (nI pp), .int (nI rl), .int (hm), .int (sp), .int (td), .int (dt), .ref ao, .ref aw, .ref an, .ref ab, .ref av])), (ao, .inl (E.2.1 1, 8, .inl (on))), (aw, .inl (E.2.1 1, 8, .inl (wr))), (an, .inl (E.2.1 1, 8, .inl (nd))), (ab, .inl (E.2.1 1, 8, .inl (br))), (av, .inl (E.2.1 1, 6, .inl (wo))), (c0, .inr (2, [.int (nI nt2), .int (nI pp2), .int (nI rl2), .int (hm2), .int (sp2), .int (td2), .int (dt2), .ref co, .ref cw, .ref cn, .ref cb, .ref cv])), (co, .inl (E.2.1 1, 8, .inl (on2))), (cw, .inl (E.2.1 1, 8, .inl (wr2))), (cn, .inl (E.2.1 1, 8, .inl (nd2))), (cb, .inl (E.2.1 1, 8, .inl (br2))), (cv, .inl (E.2.1 1, 6, .inl (wo2)))] (Rt (some (.int (if kp j = 0 then 0 else 1))) [(y0, .inr (4, [.ref a0, .ref yi, .ref yk, .ref l0, .ref t0, .ref yn, .ref yt, .int (nI se), .ref ys, .int (tn), .ref ym])), (yi, .inl (E.2.1 5, 2, .inr (.inr (.inr (.inr (mf)))))), (yk, .inl (E.2.1 3, 2, .inl (upd kp j (vp_nar .boolean 1)))), (a0, .inr (2, [.int (nI nt), .int (nI pp), .int (nI rl), .int (hm), .int (sp), .int (td), .int (dt), .ref ao, .ref aw, .ref an, .ref ab, .ref av])), (ao, .inl (E.2.1 1, 8, .inl (on))), (aw, .inl (E.2.1 1, 8, .inl (wr))), (an, .inl (E.2.1 1, 8, .inl (nd))), (ab, .inl (E.2.1 1, 8, .inl (br))), (av, .inl (E.2.1 1, 6, .inl (wo))), (c0, .inr (2, [.int (nI nt), .int (nI pp), .int (nI rl), .int (hm), .int (sp), .int (td), .int (dt), .ref co, .ref cw, .ref cn, .ref cb, .ref cv])), (co, .inl (E.2.1 1, 8, .inl (va_cpy (on) (on2) 0 0 8))), (cw, .inl (E.2.1 1, 8, .inl (va_cpy (wr) (wr2) 0 0 8))), (cn, .inl (E.2.1 1, 8, .inl (va_cpy (nd) (nd2) 0 0 8))), (cb, .inl (E.2.1 1, 8, .inl (va_cpy (br) (br2) 0 0 8))), (cv, .inl (E.2.1 1, 6, .inl (va_cpy (wo) (wo2) 0 0 6)))]) := by
  refine Ct.of (own := RX4) (nm := "keep") (lv := [(0, .ref y0), (1, .int (nI j))]) (by decide) rfl rfl (Nat.le_of_ble_eq_true rfl) rfl ?_
  refine v_iload_n (pc := 0) 1 dX4_keep_0 rfl rfl ?_
  refine v_ifN_lt (pc := 1) (a := j) 9 dX4_keep_1 (by decide) (by omega) ?_
  refine v_iload_n (pc := 4) 1 dX4_keep_4 rfl rfl ?_
  refine v_iconst (pc := 5) (v := 2) dX4_keep_5 (by decide) ?_
  refine v_cmpN_lt (pc := 6) (a := j) (b := 2) 11 dX4_keep_6 (by decide) (by omega) (by omega) (fun c_6 => ?_) (fun c_6 => ?_)
  · skip
    refine v_aload_n (pc := 11) 0 dX4_keep_11 rfl rfl ?_
    refine gf_242 (pc := 12) 0 dX4_keep_12 rfl rfl ?_
    refine v_iload_n (pc := 15) 1 dX4_keep_15 rfl rfl ?_
    refine v_zaldN (pc := 16) 2 3 (j) dX4_keep_16 rfl rfl rfl (by omega) (by decide) ?_
    refine v_if_eq (pc := 17) 24 dX4_keep_17 (by decide) (fun c_17 => ?_) (fun c_17 => ?_)
    · skip
      refine v_iconst (pc := 24) (v := 0) dX4_keep_24 (by decide) ?_
      refine v_istore_n (pc := 25) (lv' := [(2, .int (0)), (0, .ref y0), (1, .int (nI j))]) dX4_keep_25 rfl (by decide) rfl ?_
      refine v_aload_n (pc := 26) 1 dX4_keep_26 rfl rfl ?_
      refine gf_241 (pc := 27) 0 dX4_keep_27 rfl rfl ?_
      refine v_iload_n (pc := 30) 2 dX4_keep_30 rfl rfl ?_
      refine v_aaldN (pc := 31) (r := c0) 1 5 (j) dX4_keep_31 rfl rfl rfl (by omega) (by decide) h_mf ?_
      refine v_aload_n (pc := 32) 1 dX4_keep_32 rfl rfl ?_
      refine gf_240 (pc := 33) 0 dX4_keep_33 rfl rfl ?_
      refine v_callV (pc := 36) (rest := []) [9, 10, 11, 12, 13, 14, 3, 4, 5, 6, 7, 8] 9 lk_430 (c_X2_become l E c0 co cw cn cb cv nt2 pp2 rl2 hm2 sp2 td2 dt2 on2 wr2 nd2 br2 wo2 a0 ao aw an ab av nt pp rl hm sp td dt on wr nd br wo) dX4_keep_36 rfl rfl (Nat.le_of_ble_eq_true rfl) (by decide) rfl rfl rfl (by decide) rfl (Rt.len rfl) (Rt.go ?_)
      refine v_w (ws' := [(y0, .inr (4, [.ref a0, .ref yi, .ref yk, .ref l0, .ref t0, .ref yn, .ref yt, .int (nI se), .ref ys, .int (tn), .ref ym])), (yi, .inl (E.2.1 5, 2, .inr (.inr (.inr (.inr (mf)))))), (yk, .inl (E.2.1 3, 2, .inl (kp))), (a0, .inr (2, [.int (nI nt), .int (nI pp), .int (nI rl), .int (hm), .int (sp), .int (td), .int (dt), .ref ao, .ref aw, .ref an, .ref ab, .ref av])), (ao, .inl (E.2.1 1, 8, .inl (on))), (aw, .inl (E.2.1 1, 8, .inl (wr))), (an, .inl (E.2.1 1, 8, .inl (nd))), (ab, .inl (E.2.1 1, 8, .inl (br))), (av, .inl (E.2.1 1, 6, .inl (wo))), (c0, .inr (2, [.int (nI nt), .int (nI pp), .int (nI rl), .int (hm), .int (sp), .int (td), .int (dt), .ref co, .ref cw, .ref cn, .ref cb, .ref cv])), (co, .inl (E.2.1 1, 8, .inl (va_cpy (on) (on2) 0 0 8))), (cw, .inl (E.2.1 1, 8, .inl (va_cpy (wr) (wr2) 0 0 8))), (cn, .inl (E.2.1 1, 8, .inl (va_cpy (nd) (nd2) 0 0 8))), (cb, .inl (E.2.1 1, 8, .inl (va_cpy (br) (br2) 0 0 8))), (cv, .inl (E.2.1 1, 6, .inl (va_cpy (wo) (wo2) 0 0 6)))]) rfl ?_
      refine v_st (st' := []) rfl ?_
      refine v_aload_n (pc := 39) 1 dX4_keep_39 rfl rfl ?_
      refine gf_242 (pc := 40) 0 dX4_keep_40 rfl rfl ?_
      refine v_iload_n (pc := 43) 2 dX4_keep_43 rfl rfl ?_
      refine v_iconst (pc := 44) (v := 1) dX4_keep_44 (by decide) ?_
      refine v_zastN (pc := 45) (ws' := [(y0, .inr (4, [.ref a0, .ref yi, .ref yk, .ref l0, .ref t0, .ref yn, .ref yt, .int (nI se), .ref ys, .int (tn), .ref ym])), (yi, .inl (E.2.1 5, 2, .inr (.inr (.inr (.inr (mf)))))), (yk, .inl (E.2.1 3, 2, .inl (upd (kp) (j) (vp_nar .boolean (1))))), (a0, .inr (2, [.int (nI nt), .int (nI pp), .int (nI rl), .int (hm), .int (sp), .int (td), .int (dt), .ref ao, .ref aw, .ref an, .ref ab, .ref av])), (ao, .inl (E.2.1 1, 8, .inl (on))), (aw, .inl (E.2.1 1, 8, .inl (wr))), (an, .inl (E.2.1 1, 8, .inl (nd))), (ab, .inl (E.2.1 1, 8, .inl (br))), (av, .inl (E.2.1 1, 6, .inl (wo))), (c0, .inr (2, [.int (nI nt), .int (nI pp), .int (nI rl), .int (hm), .int (sp), .int (td), .int (dt), .ref co, .ref cw, .ref cn, .ref cb, .ref cv])), (co, .inl (E.2.1 1, 8, .inl (va_cpy (on) (on2) 0 0 8))), (cw, .inl (E.2.1 1, 8, .inl (va_cpy (wr) (wr2) 0 0 8))), (cn, .inl (E.2.1 1, 8, .inl (va_cpy (nd) (nd2) 0 0 8))), (cb, .inl (E.2.1 1, 8, .inl (va_cpy (br) (br2) 0 0 8))), (cv, .inl (E.2.1 1, 6, .inl (va_cpy (wo) (wo2) 0 0 6)))]) 2 3 (j) dX4_keep_45 rfl rfl rfl (by omega) (by decide) rfl ?_
      refine v_iload_n (pc := 46) 0 dX4_keep_46 rfl rfl ?_
      refine v_iret (pc := 47) dX4_keep_47 rfl ⟨rfl, rfl⟩ (Rt.i2 ?_ ?_)
      · skip
        rw [if_pos c_17]
      · skip
        rfl
    · skip
      refine v_iconst (pc := 20) (v := 1) dX4_keep_20 (by decide) ?_
      refine v_goto (pc := 21) 25 dX4_keep_21 (by decide) ?_
      refine v_istore_n (pc := 25) (lv' := [(2, .int (1)), (0, .ref y0), (1, .int (nI j))]) dX4_keep_25 rfl (by decide) rfl ?_
      refine v_aload_n (pc := 26) 1 dX4_keep_26 rfl rfl ?_
      refine gf_241 (pc := 27) 0 dX4_keep_27 rfl rfl ?_
      refine v_iload_n (pc := 30) 2 dX4_keep_30 rfl rfl ?_
      refine v_aaldN (pc := 31) (r := c0) 1 5 (j) dX4_keep_31 rfl rfl rfl (by omega) (by decide) h_mf ?_
      refine v_aload_n (pc := 32) 1 dX4_keep_32 rfl rfl ?_
      refine gf_240 (pc := 33) 0 dX4_keep_33 rfl rfl ?_
      refine v_callV (pc := 36) (rest := []) [9, 10, 11, 12, 13, 14, 3, 4, 5, 6, 7, 8] 9 lk_430 (c_X2_become l E c0 co cw cn cb cv nt2 pp2 rl2 hm2 sp2 td2 dt2 on2 wr2 nd2 br2 wo2 a0 ao aw an ab av nt pp rl hm sp td dt on wr nd br wo) dX4_keep_36 rfl rfl (Nat.le_of_ble_eq_true rfl) (by decide) rfl rfl rfl (by decide) rfl (Rt.len rfl) (Rt.go ?_)
      refine v_w (ws' := [(y0, .inr (4, [.ref a0, .ref yi, .ref yk, .ref l0, .ref t0, .ref yn, .ref yt, .int (nI se), .ref ys, .int (tn), .ref ym])), (yi, .inl (E.2.1 5, 2, .inr (.inr (.inr (.inr (mf)))))), (yk, .inl (E.2.1 3, 2, .inl (kp))), (a0, .inr (2, [.int (nI nt), .int (nI pp), .int (nI rl), .int (hm), .int (sp), .int (td), .int (dt), .ref ao, .ref aw, .ref an, .ref ab, .ref av])), (ao, .inl (E.2.1 1, 8, .inl (on))), (aw, .inl (E.2.1 1, 8, .inl (wr))), (an, .inl (E.2.1 1, 8, .inl (nd))), (ab, .inl (E.2.1 1, 8, .inl (br))), (av, .inl (E.2.1 1, 6, .inl (wo))), (c0, .inr (2, [.int (nI nt), .int (nI pp), .int (nI rl), .int (hm), .int (sp), .int (td), .int (dt), .ref co, .ref cw, .ref cn, .ref cb, .ref cv])), (co, .inl (E.2.1 1, 8, .inl (va_cpy (on) (on2) 0 0 8))), (cw, .inl (E.2.1 1, 8, .inl (va_cpy (wr) (wr2) 0 0 8))), (cn, .inl (E.2.1 1, 8, .inl (va_cpy (nd) (nd2) 0 0 8))), (cb, .inl (E.2.1 1, 8, .inl (va_cpy (br) (br2) 0 0 8))), (cv, .inl (E.2.1 1, 6, .inl (va_cpy (wo) (wo2) 0 0 6)))]) rfl ?_
      refine v_st (st' := []) rfl ?_
      refine v_aload_n (pc := 39) 1 dX4_keep_39 rfl rfl ?_
      refine gf_242 (pc := 40) 0 dX4_keep_40 rfl rfl ?_
      refine v_iload_n (pc := 43) 2 dX4_keep_43 rfl rfl ?_
      refine v_iconst (pc := 44) (v := 1) dX4_keep_44 (by decide) ?_
      refine v_zastN (pc := 45) (ws' := [(y0, .inr (4, [.ref a0, .ref yi, .ref yk, .ref l0, .ref t0, .ref yn, .ref yt, .int (nI se), .ref ys, .int (tn), .ref ym])), (yi, .inl (E.2.1 5, 2, .inr (.inr (.inr (.inr (mf)))))), (yk, .inl (E.2.1 3, 2, .inl (upd (kp) (j) (vp_nar .boolean (1))))), (a0, .inr (2, [.int (nI nt), .int (nI pp), .int (nI rl), .int (hm), .int (sp), .int (td), .int (dt), .ref ao, .ref aw, .ref an, .ref ab, .ref av])), (ao, .inl (E.2.1 1, 8, .inl (on))), (aw, .inl (E.2.1 1, 8, .inl (wr))), (an, .inl (E.2.1 1, 8, .inl (nd))), (ab, .inl (E.2.1 1, 8, .inl (br))), (av, .inl (E.2.1 1, 6, .inl (wo))), (c0, .inr (2, [.int (nI nt), .int (nI pp), .int (nI rl), .int (hm), .int (sp), .int (td), .int (dt), .ref co, .ref cw, .ref cn, .ref cb, .ref cv])), (co, .inl (E.2.1 1, 8, .inl (va_cpy (on) (on2) 0 0 8))), (cw, .inl (E.2.1 1, 8, .inl (va_cpy (wr) (wr2) 0 0 8))), (cn, .inl (E.2.1 1, 8, .inl (va_cpy (nd) (nd2) 0 0 8))), (cb, .inl (E.2.1 1, 8, .inl (va_cpy (br) (br2) 0 0 8))), (cv, .inl (E.2.1 1, 6, .inl (va_cpy (wo) (wo2) 0 0 6)))]) 2 3 (j) dX4_keep_45 rfl rfl rfl (by omega) (by decide) rfl ?_
      refine v_iload_n (pc := 46) 0 dX4_keep_46 rfl rfl ?_
      refine v_iret (pc := 47) dX4_keep_47 rfl ⟨rfl, rfl⟩ (Rt.i2 ?_ ?_)
      · skip
        rw [if_neg c_17]
      · skip
        rfl
  · skip
    refine v_iconst (pc := 9) (v := -1) dX4_keep_9 (by decide) ?_
    refine v_iret (pc := 10) dX4_keep_10 rfl ⟨rfl, rfl⟩ (Rt.i2 ?_ ?_)
    · skip
      omega
    · skip
      omega
