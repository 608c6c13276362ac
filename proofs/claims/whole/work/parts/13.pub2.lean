def lsF (p : Nat → Bool) : Nat → Nat → Int32
  | 0, i => nI i
  | n + 1, i => if p i = true then nI i else lsF p n (i + 1)
def purK (f : Nat → Int32) (s0 : Int64) : Nat → Int64
  | 0 => s0
  | n + 1 => if isIn (nI n) (purK f s0 n) ∧ ¬ f n = nI n then purK f s0 n &&& (((1 : Int64) <<< (Int32.toInt64 (nI n) &&& 63)) ^^^ -1) else purK f s0 n
def couK (x : Int64) (f : Nat → Int32) : Nat → Int32
  | 0 => 0
  | n + 1 => if isIn (nI n) x then couK x f n ||| f n else couK x f n
def fewK (W : Int64) (hm : Int32) (A : Nat → Int64) : Nat → Int32
  | 0 => -4
  | n + 1 => if nI n &&& hm = 0 ∧ fewP (nI n) (fewK W hm A n) ∧ ¬ A n &&& W = 0 then nI n else fewK W hm A n
def polK (W : Int64) (nv : Int32) (A : Nat → Int64) : Nat → Int32
  | 0 => -4
  | n + 1 => if nI n &&& nv = 0 ∧ fewP (nI n) (polK W nv A n) ∧ A n &&& W = 0 then nI n else polK W nv A n
def szF (b : Int32) : Int32 := if b = -4 then -4 else bci b
def comK (x : Int64) (td : Int32) : Nat → Int32 × Int32
  | 0 => (-4, 7)
  | n + 1 => if isIn (nI n) x ∧ ¬ (comK x td n).2 ≤ bci (nI n ^^^ td) then (nI n, bci (nI n ^^^ td)) else comK x td n
def ricK (x : Int64) (f : Nat → Int32) : Nat → Int32 × Int32
  | 0 => (-4, 0)
  | n + 1 => if isIn (nI n) x ∧ ((ricK x f n).1 = -4 ∨ ¬ f n ≤ (ricK x f n).2) then (nI n, f n) else ricK x f n
def mxI (a b : Int32) : Int32 := if a < b then b else a
def askK (x : Int64) : Nat → Int32 × Int32
  | 0 => (-4, bcl x)
  | n + 1 => if ¬ (askK x n).2 ≤ mxI (bcl (x &&& HVj n)) (bcl (x &&& (HVj n ^^^ -1))) then (nI n, mxI (bcl (x &&& HVj n)) (bcl (x &&& (HVj n ^^^ -1)))) else askK x n
def drS (sd : Int32) : Int32 := sd * 1103515245 + 12345
def drB (sd : Int32) : Int32 := (Int32.toUInt32 (sd) >>> (Int32.toUInt32 (16) &&& Int32.toUInt32 31)).toInt32 &&& 32767
def drM (sd : Int32) (nt : Nat) : Int32 := drB sd - drB sd / nI nt * nI nt
def drK (o : Int32 → Int32) (nt : Nat) (sd td : Int32) : Nat → Int32 × Int32 × Nat
  | 0 => (sd, td, 0)
  | n + 1 => (drS (drK o nt sd td n).1, o ((drK o nt sd td n).2.1 ^^^ ((1 : Int32) <<< (drM (drS (drK o nt sd td n).1) nt &&& 31))), (drK o nt sd td n).2.2 + if o (o ((drK o nt sd td n).2.1 ^^^ ((1 : Int32) <<< (drM (drS (drK o nt sd td n).1) nt &&& 31)))) = o ((drK o nt sd td n).2.1 ^^^ ((1 : Int32) <<< (drM (drS (drK o nt sd td n).1) nt &&& 31))) then 1 else 0)
theorem p64 {nt : Nat} (h : nt ≤ 6) : 2 ^ nt ≤ 64 := Nat.pow_le_pow_right (by decide) h
theorem p16 {pp : Nat} (h : pp ≤ 4) : 2 ^ pp ≤ 16 := Nat.pow_le_pow_right (by decide) h
theorem p1 (n : Nat) : 0 < 2 ^ n := Nat.two_pow_pos n
theorem c_X4_days (l : Launch) (E : VE) (y0 : Nat) (yi : Nat) (yk : Nat) (t0 : Nat) (yn : Nat) (yt : Nat) (ys : Nat) (ym : Nat) (se : Nat) (tn : Int32) (l0 : Nat) (lh : Nat) (lb : Nat) (a0 : Nat) (ao : Nat) (aw : Nat) (an : Nat) (ab : Nat) (av : Nat) (nt : Nat) (pp : Nat) (rl : Nat) (hm : Int32) (sp : Int32) (td : Int32) (dt : Int32) (on : Nat → Int32) (wr : Nat → Int32) (nd : Nat → Int32) (br : Nat → Int32) (hf : Nat → Int64) (bg : Nat → Int64) (x : Int32) (w : Nat → Nat) (h_rl : rl ≤ 8) (h_nt : nt ≤ 6) (h_wr : ∀ k, k < rl → wr k = nI (w k) ∧ w k < 6) : Ct l E yX4_days cX4_days 4 (Option.some FieldType.int) 4 90 0 0 [.ref y0, .int (x)] [(y0, .inr (4, [.ref a0, .ref yi, .ref yk, .ref l0, .ref t0, .ref yn, .ref yt, .int (nI se), .ref ys, .int (tn), .ref ym])), (l0, .inr (0, [.ref lh, .ref lb])), (lh, .inl (E.2.1 2, 8, .inr (.inl (hf)))), (lb, .inl (E.2.1 2, 6, .inr (.inl (bg)))), (a0, .inr (2, [.int (nI nt), .int (nI pp), .int (nI rl), .int (hm), .int (sp), .int (td), .int (dt), .ref ao, .ref aw, .ref an, .ref ab, .ref av])), (ao, .inl (E.2.1 1, 8, .inl (on))), (aw, .inl (E.2.1 1, 8, .inl (wr))), (an, .inl (E.2.1 1, 8, .inl (nd))), (ab, .inl (E.2.1 1, 8, .inl (br)))] (RtE2 (some (.int (if x < 0 then -1 else if x ≤ 4 then (if x = 0 then bcl (ag nt rl w (nI (2 ^ rl - 1)) sp hm on nd br) else if x = 1 then lstF (inL (ag nt rl w (nI (2 ^ rl - 1)) sp hm on nd br)) 64 0 else if x = 2 then grF (inL (ag nt rl w (nI (2 ^ rl - 1)) sp hm on nd br)) 64 else if x = 3 then allB (ag nt rl w (nI (2 ^ rl - 1)) sp hm on nd br) nt else nonB (ag nt rl w (nI (2 ^ rl - 1)) sp hm on nd br) nt) else -1))) (fun (hf_ : Nat → Int64) (bg_ : Nat → Int64) => [(y0, .inr (4, [.ref a0, .ref yi, .ref yk, .ref l0, .ref t0, .ref yn, .ref yt, .int (nI se), .ref ys, .int (tn), .ref ym])), (l0, .inr (0, [.ref lh, .ref lb])), (lh, .inl (E.2.1 2, 8, .inr (.inl (hf_)))), (lb, .inl (E.2.1 2, 6, .inr (.inl (bg_)))), (a0, .inr (2, [.int (nI nt), .int (nI pp), .int (nI rl), .int (hm), .int (sp), .int (td), .int (dt), .ref ao, .ref aw, .ref an, .ref ab, .ref av])), (ao, .inl (E.2.1 1, 8, .inl (on))), (aw, .inl (E.2.1 1, 8, .inl (wr))), (an, .inl (E.2.1 1, 8, .inl (nd))), (ab, .inl (E.2.1 1, 8, .inl (br)))])) := by
  refine Ct.of (own := RX4) (nm := "days") (lv := [(0, .ref y0), (1, .int (x))]) (by decide) rfl rfl (Nat.le_of_ble_eq_true rfl) rfl ?_
  refine v_iload_n (pc := 0) 1 dX4_days_0 rfl rfl ?_
  refine v_if_lt (pc := 1) 9 dX4_days_1 (by decide) (fun c_1 => ?_) (fun c_1 => ?_)
  · skip
    refine v_iconst (pc := 9) (v := -1) dX4_days_9 (by decide) ?_
    refine v_iret (pc := 10) dX4_days_10 rfl ⟨rfl, rfl⟩ (RtE2.i (hf) (bg) ?_ ?_)
    · skip
      first | simp only [if_pos c_1] | rfl
    · skip
      first | simp only [if_pos c_1] | rfl
  · skip
    refine v_iload_n (pc := 4) 1 dX4_days_4 rfl rfl ?_
    refine v_iconst (pc := 5) (v := 4) dX4_days_5 (by decide) ?_
    refine v_icmp_le (pc := 6) 11 dX4_days_6 (by decide) (fun c_6 => ?_) (fun c_6 => ?_)
    · skip
      refine v_aload_n (pc := 11) 0 dX4_days_11 rfl rfl ?_
      refine gf_243 (pc := 12) 0 dX4_days_12 rfl rfl ?_
      refine v_aload_n (pc := 15) 0 dX4_days_15 rfl rfl ?_
      refine gf_240 (pc := 16) 0 dX4_days_16 rfl rfl ?_
      refine v_callV (pc := 19) (rest := []) [1, 2, 3, 4, 5, 6, 7, 8] 1 lk_539 (c_X0_agreeingNow l E l0 lh lb a0 ao aw an ab av nt pp rl hm sp td dt on wr nd br hf bg w (by first | assumption | omega) (by first | assumption | omega) (by first | assumption | omega)) dX4_days_19 rfl rfl (Nat.le_of_ble_eq_true rfl) (by decide) rfl rfl rfl (by decide) rfl (RtE2.len (fun _ _ => rfl)) (RtE2.go (fun hf_19 bg_19 => ?_))
      refine v_w (ws' := [(y0, .inr (4, [.ref a0, .ref yi, .ref yk, .ref l0, .ref t0, .ref yn, .ref yt, .int (nI se), .ref ys, .int (tn), .ref ym])), (l0, .inr (0, [.ref lh, .ref lb])), (lh, .inl (E.2.1 2, 8, .inr (.inl (hf_19)))), (lb, .inl (E.2.1 2, 6, .inr (.inl (bg_19)))), (a0, .inr (2, [.int (nI nt), .int (nI pp), .int (nI rl), .int (hm), .int (sp), .int (td), .int (dt), .ref ao, .ref aw, .ref an, .ref ab, .ref av])), (ao, .inl (E.2.1 1, 8, .inl (on))), (aw, .inl (E.2.1 1, 8, .inl (wr))), (an, .inl (E.2.1 1, 8, .inl (nd))), (ab, .inl (E.2.1 1, 8, .inl (br)))]) rfl ?_
      refine v_st (st' := [.long (ag nt rl w (nI (2 ^ rl - 1)) sp hm on nd br)]) rfl ?_
      refine v_lstore_n (pc := 22) (lv' := [(2, .long (ag nt rl w (nI (2 ^ rl - 1)) sp hm on nd br)), (0, .ref y0), (1, .int (x))]) dX4_days_22 rfl (by decide) rfl ?_
      refine v_iload_n (pc := 23) 2 dX4_days_23 rfl rfl ?_
      by_cases c_24_0 : x = 0
      · skip
        refine v_tableIn (pc := 24) (off := 32) 56 dX4_days_24 (by rw [c_24_0]; decide) (by rw [c_24_0]; decide) (by rw [c_24_0]; decide) (by decide) ?_
        refine v_lload_n (pc := 56) 0 dX4_days_56 rfl rfl ?_
        refine v_callS (pc := 57) (rest := []) [] lk_565 (c_J13_bitCount_95d88 l E (ag nt rl w (nI (2 ^ rl - 1)) sp hm on nd br)) dX4_days_57 rfl rfl (Nat.le_of_ble_eq_true rfl) (by decide) (by decide) rfl (Rt.len rfl) (Rt.go ?_)
        refine v_w (ws' := [(y0, .inr (4, [.ref a0, .ref yi, .ref yk, .ref l0, .ref t0, .ref yn, .ref yt, .int (nI se), .ref ys, .int (tn), .ref ym])), (l0, .inr (0, [.ref lh, .ref lb])), (lh, .inl (E.2.1 2, 8, .inr (.inl (hf_19)))), (lb, .inl (E.2.1 2, 6, .inr (.inl (bg_19)))), (a0, .inr (2, [.int (nI nt), .int (nI pp), .int (nI rl), .int (hm), .int (sp), .int (td), .int (dt), .ref ao, .ref aw, .ref an, .ref ab, .ref av])), (ao, .inl (E.2.1 1, 8, .inl (on))), (aw, .inl (E.2.1 1, 8, .inl (wr))), (an, .inl (E.2.1 1, 8, .inl (nd))), (ab, .inl (E.2.1 1, 8, .inl (br)))]) rfl ?_
        refine v_st (st' := [.int (bcl (ag nt rl w (nI (2 ^ rl - 1)) sp hm on nd br))]) rfl ?_
        refine v_iret (pc := 60) dX4_days_60 rfl ⟨rfl, rfl⟩ (RtE2.i (hf_19) (bg_19) ?_ ?_)
        · skip
          first | simp only [if_neg c_1, if_pos c_6, if_pos c_24_0] | rfl
        · skip
          first | simp only [if_neg c_1, if_pos c_6, if_pos c_24_0] | rfl
      by_cases c_24_1 : x = 1
      · skip
        refine v_tableIn (pc := 24) (off := 37) 61 dX4_days_24 (by rw [c_24_1]; decide) (by rw [c_24_1]; decide) (by rw [c_24_1]; decide) (by decide) ?_
        refine v_lload_n (pc := 61) 0 dX4_days_61 rfl rfl ?_
        refine v_callS (pc := 62) (rest := []) [] lk_571 (c_X4_leastOf l E (ag nt rl w (nI (2 ^ rl - 1)) sp hm on nd br)) dX4_days_62 rfl rfl (Nat.le_of_ble_eq_true rfl) (by decide) (by decide) rfl (Rt.len rfl) (Rt.go ?_)
        refine v_w (ws' := [(y0, .inr (4, [.ref a0, .ref yi, .ref yk, .ref l0, .ref t0, .ref yn, .ref yt, .int (nI se), .ref ys, .int (tn), .ref ym])), (l0, .inr (0, [.ref lh, .ref lb])), (lh, .inl (E.2.1 2, 8, .inr (.inl (hf_19)))), (lb, .inl (E.2.1 2, 6, .inr (.inl (bg_19)))), (a0, .inr (2, [.int (nI nt), .int (nI pp), .int (nI rl), .int (hm), .int (sp), .int (td), .int (dt), .ref ao, .ref aw, .ref an, .ref ab, .ref av])), (ao, .inl (E.2.1 1, 8, .inl (on))), (aw, .inl (E.2.1 1, 8, .inl (wr))), (an, .inl (E.2.1 1, 8, .inl (nd))), (ab, .inl (E.2.1 1, 8, .inl (br)))]) rfl ?_
        refine v_st (st' := [.int (lstF (inL (ag nt rl w (nI (2 ^ rl - 1)) sp hm on nd br)) 64 0)]) rfl ?_
        refine v_iret (pc := 65) dX4_days_65 rfl ⟨rfl, rfl⟩ (RtE2.i (hf_19) (bg_19) ?_ ?_)
        · skip
          first | simp only [if_neg c_1, if_pos c_6, if_neg c_24_0, if_pos c_24_1] | rfl
        · skip
          first | simp only [if_neg c_1, if_pos c_6, if_neg c_24_0, if_pos c_24_1] | rfl
      by_cases c_24_2 : x = 2
      · skip
        refine v_tableIn (pc := 24) (off := 42) 66 dX4_days_24 (by rw [c_24_2]; decide) (by rw [c_24_2]; decide) (by rw [c_24_2]; decide) (by decide) ?_
        refine v_lload_n (pc := 66) 0 dX4_days_66 rfl rfl ?_
        refine v_callS (pc := 67) (rest := []) [] lk_577 (c_X4_greatestOf l E (ag nt rl w (nI (2 ^ rl - 1)) sp hm on nd br)) dX4_days_67 rfl rfl (Nat.le_of_ble_eq_true rfl) (by decide) (by decide) rfl (Rt.len rfl) (Rt.go ?_)
        refine v_w (ws' := [(y0, .inr (4, [.ref a0, .ref yi, .ref yk, .ref l0, .ref t0, .ref yn, .ref yt, .int (nI se), .ref ys, .int (tn), .ref ym])), (l0, .inr (0, [.ref lh, .ref lb])), (lh, .inl (E.2.1 2, 8, .inr (.inl (hf_19)))), (lb, .inl (E.2.1 2, 6, .inr (.inl (bg_19)))), (a0, .inr (2, [.int (nI nt), .int (nI pp), .int (nI rl), .int (hm), .int (sp), .int (td), .int (dt), .ref ao, .ref aw, .ref an, .ref ab, .ref av])), (ao, .inl (E.2.1 1, 8, .inl (on))), (aw, .inl (E.2.1 1, 8, .inl (wr))), (an, .inl (E.2.1 1, 8, .inl (nd))), (ab, .inl (E.2.1 1, 8, .inl (br)))]) rfl ?_
        refine v_st (st' := [.int (grF (inL (ag nt rl w (nI (2 ^ rl - 1)) sp hm on nd br)) 64)]) rfl ?_
        refine v_iret (pc := 70) dX4_days_70 rfl ⟨rfl, rfl⟩ (RtE2.i (hf_19) (bg_19) ?_ ?_)
        · skip
          first | simp only [if_neg c_1, if_pos c_6, if_neg c_24_0, if_neg c_24_1, if_pos c_24_2] | rfl
        · skip
          first | simp only [if_neg c_1, if_pos c_6, if_neg c_24_0, if_neg c_24_1, if_pos c_24_2] | rfl
      by_cases c_24_3 : x = 3
      · skip
        refine v_tableIn (pc := 24) (off := 47) 71 dX4_days_24 (by rw [c_24_3]; decide) (by rw [c_24_3]; decide) (by rw [c_24_3]; decide) (by decide) ?_
        refine v_aload_n (pc := 71) 1 dX4_days_71 rfl rfl ?_
        refine v_lload_n (pc := 72) 0 dX4_days_72 rfl rfl ?_
        refine v_callV (pc := 73) (rest := []) [0, 4] 0 lk_580 (c_X4_inAll l E y0 yi yk t0 yn yt ys ym se tn l0 a0 ao aw an ab av nt pp rl hm sp td dt (ag nt rl w (nI (2 ^ rl - 1)) sp hm on nd br) (by first | assumption | omega)) dX4_days_73 rfl rfl (Nat.le_of_ble_eq_true rfl) (by decide) rfl rfl rfl (by decide) rfl (Rt.len rfl) (Rt.go ?_)
        refine v_w (ws' := [(y0, .inr (4, [.ref a0, .ref yi, .ref yk, .ref l0, .ref t0, .ref yn, .ref yt, .int (nI se), .ref ys, .int (tn), .ref ym])), (l0, .inr (0, [.ref lh, .ref lb])), (lh, .inl (E.2.1 2, 8, .inr (.inl (hf_19)))), (lb, .inl (E.2.1 2, 6, .inr (.inl (bg_19)))), (a0, .inr (2, [.int (nI nt), .int (nI pp), .int (nI rl), .int (hm), .int (sp), .int (td), .int (dt), .ref ao, .ref aw, .ref an, .ref ab, .ref av])), (ao, .inl (E.2.1 1, 8, .inl (on))), (aw, .inl (E.2.1 1, 8, .inl (wr))), (an, .inl (E.2.1 1, 8, .inl (nd))), (ab, .inl (E.2.1 1, 8, .inl (br)))]) rfl ?_
        refine v_st (st' := [.int (allB (ag nt rl w (nI (2 ^ rl - 1)) sp hm on nd br) nt)]) rfl ?_
        refine v_iret (pc := 76) dX4_days_76 rfl ⟨rfl, rfl⟩ (RtE2.i (hf_19) (bg_19) ?_ ?_)
        · skip
          first | simp only [if_neg c_1, if_pos c_6, if_neg c_24_0, if_neg c_24_1, if_neg c_24_2, if_pos c_24_3] | rfl
        · skip
          first | simp only [if_neg c_1, if_pos c_6, if_neg c_24_0, if_neg c_24_1, if_neg c_24_2, if_pos c_24_3] | rfl
      refine v_tableOut (pc := 24) 77 dX4_days_24 (sw_out4 c_24_0 c_24_1 c_24_2 c_24_3) (by decide) ?_
      refine v_aload_n (pc := 77) 1 dX4_days_77 rfl rfl ?_
      refine v_lload_n (pc := 78) 0 dX4_days_78 rfl rfl ?_
      refine v_callV (pc := 79) (rest := []) [0, 4] 0 lk_586 (c_X4_inNone l E y0 yi yk t0 yn yt ys ym se tn l0 a0 ao aw an ab av nt pp rl hm sp td dt (ag nt rl w (nI (2 ^ rl - 1)) sp hm on nd br) (by first | assumption | omega)) dX4_days_79 rfl rfl (Nat.le_of_ble_eq_true rfl) (by decide) rfl rfl rfl (by decide) rfl (Rt.len rfl) (Rt.go ?_)
      refine v_w (ws' := [(y0, .inr (4, [.ref a0, .ref yi, .ref yk, .ref l0, .ref t0, .ref yn, .ref yt, .int (nI se), .ref ys, .int (tn), .ref ym])), (l0, .inr (0, [.ref lh, .ref lb])), (lh, .inl (E.2.1 2, 8, .inr (.inl (hf_19)))), (lb, .inl (E.2.1 2, 6, .inr (.inl (bg_19)))), (a0, .inr (2, [.int (nI nt), .int (nI pp), .int (nI rl), .int (hm), .int (sp), .int (td), .int (dt), .ref ao, .ref aw, .ref an, .ref ab, .ref av])), (ao, .inl (E.2.1 1, 8, .inl (on))), (aw, .inl (E.2.1 1, 8, .inl (wr))), (an, .inl (E.2.1 1, 8, .inl (nd))), (ab, .inl (E.2.1 1, 8, .inl (br)))]) rfl ?_
      refine v_st (st' := [.int (nonB (ag nt rl w (nI (2 ^ rl - 1)) sp hm on nd br) nt)]) rfl ?_
      refine v_iret (pc := 82) dX4_days_82 rfl ⟨rfl, rfl⟩ (RtE2.i (hf_19) (bg_19) ?_ ?_)
      · skip
        first | simp only [if_neg c_1, if_pos c_6, if_neg c_24_0, if_neg c_24_1, if_neg c_24_2, if_neg c_24_3] | rfl
      · skip
        first | simp only [if_neg c_1, if_pos c_6, if_neg c_24_0, if_neg c_24_1, if_neg c_24_2, if_neg c_24_3] | rfl
    · skip
      refine v_iconst (pc := 9) (v := -1) dX4_days_9 (by decide) ?_
      refine v_iret (pc := 10) dX4_days_10 rfl ⟨rfl, rfl⟩ (RtE2.i (hf) (bg) ?_ ?_)
      · skip
        first | simp only [if_neg c_1, if_neg c_6] | rfl
      · skip
        first | simp only [if_neg c_1, if_neg c_6] | rfl
theorem c_X4_first (l : Launch) (E : VE) (y0 : Nat) (yi : Nat) (yk : Nat) (t0 : Nat) (yn : Nat) (yt : Nat) (ys : Nat) (ym : Nat) (se : Nat) (tn : Int32) (l0 : Nat) (lh : Nat) (lb : Nat) (a0 : Nat) (ao : Nat) (aw : Nat) (an : Nat) (ab : Nat) (av : Nat) (nt : Nat) (pp : Nat) (rl : Nat) (hm : Int32) (sp : Int32) (td : Int32) (dt : Int32) (on : Nat → Int32) (wr : Nat → Int32) (nd : Nat → Int32) (br : Nat → Int32) (hf : Nat → Int64) (bg : Nat → Int64) (w : Nat → Nat) (h_rl : rl ≤ 8) (h_nt : nt ≤ 6) (h_wr : ∀ k, k < rl → wr k = nI (w k) ∧ w k < 6) : Ct l E yX4_first cX4_first 2 (Option.some FieldType.int) 3 69 0 0 [.ref y0] [(y0, .inr (4, [.ref a0, .ref yi, .ref yk, .ref l0, .ref t0, .ref yn, .ref yt, .int (nI se), .ref ys, .int (tn), .ref ym])), (l0, .inr (0, [.ref lh, .ref lb])), (lh, .inl (E.2.1 2, 8, .inr (.inl (hf)))), (lb, .inl (E.2.1 2, 6, .inr (.inl (bg)))), (a0, .inr (2, [.int (nI nt), .int (nI pp), .int (nI rl), .int (hm), .int (sp), .int (td), .int (dt), .ref ao, .ref aw, .ref an, .ref ab, .ref av])), (ao, .inl (E.2.1 1, 8, .inl (on))), (aw, .inl (E.2.1 1, 8, .inl (wr))), (an, .inl (E.2.1 1, 8, .inl (nd))), (ab, .inl (E.2.1 1, 8, .inl (br)))] (RtE2 (some (.int (lstF (fun n => decide ((ag nt rl w (nI (2 ^ n - 1)) (sp) (hm) on nd br) = 0)) (rl + 1) 0))) (fun (hf_ : Nat → Int64) (bg_ : Nat → Int64) => [(y0, .inr (4, [.ref a0, .ref yi, .ref yk, .ref l0, .ref t0, .ref yn, .ref yt, .int (nI se), .ref ys, .int (tn), .ref ym])), (l0, .inr (0, [.ref lh, .ref lb])), (lh, .inl (E.2.1 2, 8, .inr (.inl (hf_)))), (lb, .inl (E.2.1 2, 6, .inr (.inl (bg_)))), (a0, .inr (2, [.int (nI nt), .int (nI pp), .int (nI rl), .int (hm), .int (sp), .int (td), .int (dt), .ref ao, .ref aw, .ref an, .ref ab, .ref av])), (ao, .inl (E.2.1 1, 8, .inl (on))), (aw, .inl (E.2.1 1, 8, .inl (wr))), (an, .inl (E.2.1 1, 8, .inl (nd))), (ab, .inl (E.2.1 1, 8, .inl (br)))])) := by
  refine Ct.of (own := RX4) (nm := "first") (lv := [(0, .ref y0)]) (by decide) rfl rfl (Nat.le_of_ble_eq_true rfl) rfl ?_
  refine v_aload_n (pc := 0) 0 dX4_first_0 rfl rfl ?_
  refine gf_243 (pc := 1) 0 dX4_first_1 rfl rfl ?_
  refine v_aload_n (pc := 4) 0 dX4_first_4 rfl rfl ?_
  refine gf_240 (pc := 5) 0 dX4_first_5 rfl rfl ?_
  refine v_aload_n (pc := 8) 0 dX4_first_8 rfl rfl ?_
  refine gf_240 (pc := 9) 0 dX4_first_9 rfl rfl ?_
  refine gf_100 (pc := 12) 4 dX4_first_12 rfl rfl ?_
  refine v_callV (pc := 15) (rest := []) [1, 2, 4, 5, 7, 8] 1 lk_594 (c_X0_open l E l0 lh lb a0 ao aw an ab av nt pp rl hm sp td dt on nd br hm hf (by first | assumption | omega)) dX4_first_15 rfl rfl (Nat.le_of_ble_eq_true rfl) (by decide) rfl rfl rfl (by decide) rfl (Rt.len rfl) (Rt.go ?_)
  refine v_w (ws' := [(y0, .inr (4, [.ref a0, .ref yi, .ref yk, .ref l0, .ref t0, .ref yn, .ref yt, .int (nI se), .ref ys, .int (tn), .ref ym])), (l0, .inr (0, [.ref lh, .ref lb])), (lh, .inl (E.2.1 2, 8, .inr (.inl (openF hm on nd br hf rl)))), (lb, .inl (E.2.1 2, 6, .inr (.inl (bg)))), (a0, .inr (2, [.int (nI nt), .int (nI pp), .int (nI rl), .int (hm), .int (sp), .int (td), .int (dt), .ref ao, .ref aw, .ref an, .ref ab, .ref av])), (ao, .inl (E.2.1 1, 8, .inl (on))), (aw, .inl (E.2.1 1, 8, .inl (wr))), (an, .inl (E.2.1 1, 8, .inl (nd))), (ab, .inl (E.2.1 1, 8, .inl (br)))]) rfl ?_
  refine v_st (st' := []) rfl ?_
  refine v_iconst (pc := 18) (v := 0) dX4_first_18 (by decide) ?_
  refine v_istore_n (pc := 19) (lv' := [(1, .int (0)), (0, .ref y0)]) dX4_first_19 rfl (by decide) rfl ?_
  have loop_20 : ∀ (D_20 : Nat) (i : Nat) (gb : Nat → Int64), rl + 1 - i < D_20 → (i ≤ rl + 1) → (lstF (fun n => decide ((ag nt rl w (nI (2 ^ n - 1)) (sp) (hm) on nd br) = 0)) (rl + 1) 0 = lstF (fun n => decide ((ag nt rl w (nI (2 ^ n - 1)) (sp) (hm) on nd br) = 0)) (rl + 1 - i) i) → V l E RX4 cX4_first 2 (Option.some FieldType.int) "first" ({ frames := 3, cells := 0, slots := 0, locals := 69 }) [(y0, .inr (4, [.ref a0, .ref yi, .ref yk, .ref l0, .ref t0, .ref yn, .ref yt, .int (nI se), .ref ys, .int (tn), .ref ym])), (l0, .inr (0, [.ref lh, .ref lb])), (lh, .inl (E.2.1 2, 8, .inr (.inl (hf)))), (lb, .inl (E.2.1 2, 6, .inr (.inl (bg)))), (a0, .inr (2, [.int (nI nt), .int (nI pp), .int (nI rl), .int (hm), .int (sp), .int (td), .int (dt), .ref ao, .ref aw, .ref an, .ref ab, .ref av])), (ao, .inl (E.2.1 1, 8, .inl (on))), (aw, .inl (E.2.1 1, 8, .inl (wr))), (an, .inl (E.2.1 1, 8, .inl (nd))), (ab, .inl (E.2.1 1, 8, .inl (br)))] 0 0 (RtE2 (some (.int (lstF (fun n => decide ((ag nt rl w (nI (2 ^ n - 1)) (sp) (hm) on nd br) = 0)) (rl + 1) 0))) (fun (hf_ : Nat → Int64) (bg_ : Nat → Int64) => [(y0, .inr (4, [.ref a0, .ref yi, .ref yk, .ref l0, .ref t0, .ref yn, .ref yt, .int (nI se), .ref ys, .int (tn), .ref ym])), (l0, .inr (0, [.ref lh, .ref lb])), (lh, .inl (E.2.1 2, 8, .inr (.inl (hf_)))), (lb, .inl (E.2.1 2, 6, .inr (.inl (bg_)))), (a0, .inr (2, [.int (nI nt), .int (nI pp), .int (nI rl), .int (hm), .int (sp), .int (td), .int (dt), .ref ao, .ref aw, .ref an, .ref ab, .ref av])), (ao, .inl (E.2.1 1, 8, .inl (on))), (aw, .inl (E.2.1 1, 8, .inl (wr))), (an, .inl (E.2.1 1, 8, .inl (nd))), (ab, .inl (E.2.1 1, 8, .inl (br)))])) 0 0 20 [(1, .int (nI i)), (0, .ref y0)] [] [(y0, .inr (4, [.ref a0, .ref yi, .ref yk, .ref l0, .ref t0, .ref yn, .ref yt, .int (nI se), .ref ys, .int (tn), .ref ym])), (l0, .inr (0, [.ref lh, .ref lb])), (lh, .inl (E.2.1 2, 8, .inr (.inl (openF hm on nd br hf rl)))), (lb, .inl (E.2.1 2, 6, .inr (.inl (gb)))), (a0, .inr (2, [.int (nI nt), .int (nI pp), .int (nI rl), .int (hm), .int (sp), .int (td), .int (dt), .ref ao, .ref aw, .ref an, .ref ab, .ref av])), (ao, .inl (E.2.1 1, 8, .inl (on))), (aw, .inl (E.2.1 1, 8, .inl (wr))), (an, .inl (E.2.1 1, 8, .inl (nd))), (ab, .inl (E.2.1 1, 8, .inl (br)))] := by
    intro D_20
    induction D_20 with
    | zero => intro i gb h; exact absurd h (Nat.not_lt_zero _)
    | succ D_20 ih_20 =>
      intro i gb hmu_20 h_20_0 h_20_1
      refine v_iload_n (pc := 20) 0 dX4_first_20 rfl rfl ?_
      refine v_aload_n (pc := 21) 1 dX4_first_21 rfl rfl ?_
      refine gf_240 (pc := 22) 0 dX4_first_22 rfl rfl ?_
      refine gf_96 (pc := 25) 4 dX4_first_25 rfl rfl ?_
      refine v_cmpN_gt (pc := 28) (a := i) (b := rl) 67 dX4_first_28 (by decide) (by omega) (by omega) (fun c_28 => ?_) (fun c_28 => ?_)
      · skip
        refine v_bipush (pc := 67) (v := -4) dX4_first_67 (by decide) ?_
        refine v_iret (pc := 69) dX4_first_69 rfl ⟨rfl, rfl⟩ (RtE2.i (openF hm on nd br hf rl) (gb) ?_ ?_)
        · skip
          rw [h_20_1, show rl + 1 - i = 0 by omega]; rfl
        · skip
          rfl
      · skip
        refine v_aload_n (pc := 31) 1 dX4_first_31 rfl rfl ?_
        refine gf_243 (pc := 32) 0 dX4_first_32 rfl rfl ?_
        refine v_aload_n (pc := 35) 1 dX4_first_35 rfl rfl ?_
        refine gf_240 (pc := 36) 0 dX4_first_36 rfl rfl ?_
        refine v_iconst (pc := 39) (v := 1) dX4_first_39 (by decide) ?_
        refine v_iload_n (pc := 40) 0 dX4_first_40 rfl rfl ?_
        refine v_ishl (pc := 41) dX4_first_41 ?_
        refine v_iconst (pc := 42) (v := 1) dX4_first_42 (by decide) ?_
        refine v_isub (pc := 43) dX4_first_43 ?_
        refine v_st (st' := [.int (nI (2 ^ i - 1)), .ref a0, .ref l0]) (by rw [pwm (by omega)]) ?_
        refine v_aload_n (pc := 44) 1 dX4_first_44 rfl rfl ?_
        refine gf_240 (pc := 45) 0 dX4_first_45 rfl rfl ?_
        refine gf_104 (pc := 48) 4 dX4_first_48 rfl rfl ?_
        refine v_callV (pc := 51) (rest := []) [1, 2, 3, 4, 6] 1 lk_595 (c_X0_agreeing l E l0 lh lb a0 ao aw an ab av nt pp rl hm sp td dt on wr nd br (nI (2 ^ i - 1)) sp hm (openF hm on nd br hf rl) gb w (by first | assumption | omega) (by first | assumption | omega) (by first | assumption | omega) open_ho) dX4_first_51 rfl rfl (Nat.le_of_ble_eq_true rfl) (by decide) rfl rfl rfl (by decide) rfl (RtE1.len (fun _ => rfl)) (RtE1.go (fun bg_51 => ?_))
        refine v_w (ws' := [(y0, .inr (4, [.ref a0, .ref yi, .ref yk, .ref l0, .ref t0, .ref yn, .ref yt, .int (nI se), .ref ys, .int (tn), .ref ym])), (l0, .inr (0, [.ref lh, .ref lb])), (lh, .inl (E.2.1 2, 8, .inr (.inl ((openF hm on nd br hf rl))))), (lb, .inl (E.2.1 2, 6, .inr (.inl (bg_51)))), (a0, .inr (2, [.int (nI nt), .int (nI pp), .int (nI rl), .int (hm), .int (sp), .int (td), .int (dt), .ref ao, .ref aw, .ref an, .ref ab, .ref av])), (ao, .inl (E.2.1 1, 8, .inl (on))), (aw, .inl (E.2.1 1, 8, .inl (wr))), (an, .inl (E.2.1 1, 8, .inl (nd))), (ab, .inl (E.2.1 1, 8, .inl (br)))]) rfl ?_
        refine v_st (st' := [.long (ag nt rl w (nI (2 ^ i - 1)) sp hm on nd br)]) rfl ?_
        refine v_lconst (pc := 54) (v := 0) dX4_first_54 (by decide) ?_
        refine v_lcmp (pc := 55) dX4_first_55 ?_
        refine v_lc_ne (pc := 56) 61 dX4_first_56 (by decide) (fun c_56 => ?_) (fun c_56 => ?_)
        · skip
          refine v_iinc (pc := 61) (v := nI (i + 1)) (lv' := [(1, .int (nI (i + 1))), (0, .ref y0)]) 0 dX4_first_61 rfl (nI_inc (i) 1) (by decide) rfl ?_
          refine v_goto (pc := 64) 20 dX4_first_64 (by decide) ?_
          refine v_lv (lv' := [(1, .int (nI (i + 1))), (0, .ref y0)]) [0, 1] rfl ?_
          refine ih_20 (i + 1) bg_51 (by omega) ?_ ?_
          · omega
          · rw [h_20_1, show rl + 1 - i = (rl + 1 - (i + 1)) + 1 by omega, lstF, if_neg (by simpa using c_56)]
        · skip
          refine v_iload_n (pc := 59) 0 dX4_first_59 rfl rfl ?_
          refine v_iret (pc := 60) dX4_first_60 rfl ⟨rfl, rfl⟩ (RtE2.i ((openF hm on nd br hf rl)) (bg_51) ?_ ?_)
          · skip
            rw [h_20_1, show rl + 1 - i = (rl + 1 - (i + 1)) + 1 by omega, lstF, if_pos (by simpa using c_56)]
          · skip
            rfl
  refine v_lv (lv' := [(1, .int (nI 0)), (0, .ref y0)]) [0, 1] rfl ?_
  refine loop_20 ((rl + 1 - 0) + 1) 0 bg (Nat.lt_succ_self _) ?_ ?_
  · omega
  · rfl
theorem c_X4_less (l : Launch) (E : VE) (y0 : Nat) (yi : Nat) (yk : Nat) (t0 : Nat) (yn : Nat) (yt : Nat) (ys : Nat) (ym : Nat) (se : Nat) (tn : Int32) (l0 : Nat) (lh : Nat) (lb : Nat) (a0 : Nat) (ao : Nat) (aw : Nat) (an : Nat) (ab : Nat) (av : Nat) (nt : Nat) (pp : Nat) (rl : Nat) (hm : Int32) (sp : Int32) (td : Int32) (dt : Int32) (on : Nat → Int32) (wr : Nat → Int32) (nd : Nat → Int32) (br : Nat → Int32) (hf : Nat → Int64) (bg : Nat → Int64) (w : Nat → Nat) (h_rl : rl ≤ 8) (h_nt : nt ≤ 6) (h_wr : ∀ k, k < rl → wr k = nI (w k) ∧ w k < 6) : Ct l E yX4_less cX4_less 2 (Option.some FieldType.int) 3 69 0 0 [.ref y0] [(y0, .inr (4, [.ref a0, .ref yi, .ref yk, .ref l0, .ref t0, .ref yn, .ref yt, .int (nI se), .ref ys, .int (tn), .ref ym])), (l0, .inr (0, [.ref lh, .ref lb])), (lh, .inl (E.2.1 2, 8, .inr (.inl (hf)))), (lb, .inl (E.2.1 2, 6, .inr (.inl (bg)))), (a0, .inr (2, [.int (nI nt), .int (nI pp), .int (nI rl), .int (hm), .int (sp), .int (td), .int (dt), .ref ao, .ref aw, .ref an, .ref ab, .ref av])), (ao, .inl (E.2.1 1, 8, .inl (on))), (aw, .inl (E.2.1 1, 8, .inl (wr))), (an, .inl (E.2.1 1, 8, .inl (nd))), (ab, .inl (E.2.1 1, 8, .inl (br)))] (RtE2 (some (.int (lsF (fun g => decide (¬ (ag nt rl w (nI (2 ^ (rl - g) - 1)) (sp) (hm) on nd br) = 0)) rl 0))) (fun (hf_ : Nat → Int64) (bg_ : Nat → Int64) => [(y0, .inr (4, [.ref a0, .ref yi, .ref yk, .ref l0, .ref t0, .ref yn, .ref yt, .int (nI se), .ref ys, .int (tn), .ref ym])), (l0, .inr (0, [.ref lh, .ref lb])), (lh, .inl (E.2.1 2, 8, .inr (.inl (hf_)))), (lb, .inl (E.2.1 2, 6, .inr (.inl (bg_)))), (a0, .inr (2, [.int (nI nt), .int (nI pp), .int (nI rl), .int (hm), .int (sp), .int (td), .int (dt), .ref ao, .ref aw, .ref an, .ref ab, .ref av])), (ao, .inl (E.2.1 1, 8, .inl (on))), (aw, .inl (E.2.1 1, 8, .inl (wr))), (an, .inl (E.2.1 1, 8, .inl (nd))), (ab, .inl (E.2.1 1, 8, .inl (br)))])) := by
  refine Ct.of (own := RX4) (nm := "less") (lv := [(0, .ref y0)]) (by decide) rfl rfl (Nat.le_of_ble_eq_true rfl) rfl ?_
  refine v_aload_n (pc := 0) 0 dX4_less_0 rfl rfl ?_
  refine gf_243 (pc := 1) 0 dX4_less_1 rfl rfl ?_
  refine v_aload_n (pc := 4) 0 dX4_less_4 rfl rfl ?_
  refine gf_240 (pc := 5) 0 dX4_less_5 rfl rfl ?_
  refine v_aload_n (pc := 8) 0 dX4_less_8 rfl rfl ?_
  refine gf_240 (pc := 9) 0 dX4_less_9 rfl rfl ?_
  refine gf_100 (pc := 12) 4 dX4_less_12 rfl rfl ?_
  refine v_callV (pc := 15) (rest := []) [1, 2, 4, 5, 7, 8] 1 lk_594 (c_X0_open l E l0 lh lb a0 ao aw an ab av nt pp rl hm sp td dt on nd br hm hf (by first | assumption | omega)) dX4_less_15 rfl rfl (Nat.le_of_ble_eq_true rfl) (by decide) rfl rfl rfl (by decide) rfl (Rt.len rfl) (Rt.go ?_)
  refine v_w (ws' := [(y0, .inr (4, [.ref a0, .ref yi, .ref yk, .ref l0, .ref t0, .ref yn, .ref yt, .int (nI se), .ref ys, .int (tn), .ref ym])), (l0, .inr (0, [.ref lh, .ref lb])), (lh, .inl (E.2.1 2, 8, .inr (.inl (openF hm on nd br hf rl)))), (lb, .inl (E.2.1 2, 6, .inr (.inl (bg)))), (a0, .inr (2, [.int (nI nt), .int (nI pp), .int (nI rl), .int (hm), .int (sp), .int (td), .int (dt), .ref ao, .ref aw, .ref an, .ref ab, .ref av])), (ao, .inl (E.2.1 1, 8, .inl (on))), (aw, .inl (E.2.1 1, 8, .inl (wr))), (an, .inl (E.2.1 1, 8, .inl (nd))), (ab, .inl (E.2.1 1, 8, .inl (br)))]) rfl ?_
  refine v_st (st' := []) rfl ?_
  refine v_iconst (pc := 18) (v := 0) dX4_less_18 (by decide) ?_
  refine v_istore_n (pc := 19) (lv' := [(1, .int (0)), (0, .ref y0)]) dX4_less_19 rfl (by decide) rfl ?_
  have loop_20 : ∀ (D_20 : Nat) (i : Nat) (gb : Nat → Int64), rl - i < D_20 → (i ≤ rl) → (lsF (fun g => decide (¬ (ag nt rl w (nI (2 ^ (rl - g) - 1)) (sp) (hm) on nd br) = 0)) rl 0 = lsF (fun g => decide (¬ (ag nt rl w (nI (2 ^ (rl - g) - 1)) (sp) (hm) on nd br) = 0)) (rl - i) i) → V l E RX4 cX4_less 2 (Option.some FieldType.int) "less" ({ frames := 3, cells := 0, slots := 0, locals := 69 }) [(y0, .inr (4, [.ref a0, .ref yi, .ref yk, .ref l0, .ref t0, .ref yn, .ref yt, .int (nI se), .ref ys, .int (tn), .ref ym])), (l0, .inr (0, [.ref lh, .ref lb])), (lh, .inl (E.2.1 2, 8, .inr (.inl (hf)))), (lb, .inl (E.2.1 2, 6, .inr (.inl (bg)))), (a0, .inr (2, [.int (nI nt), .int (nI pp), .int (nI rl), .int (hm), .int (sp), .int (td), .int (dt), .ref ao, .ref aw, .ref an, .ref ab, .ref av])), (ao, .inl (E.2.1 1, 8, .inl (on))), (aw, .inl (E.2.1 1, 8, .inl (wr))), (an, .inl (E.2.1 1, 8, .inl (nd))), (ab, .inl (E.2.1 1, 8, .inl (br)))] 0 0 (RtE2 (some (.int (lsF (fun g => decide (¬ (ag nt rl w (nI (2 ^ (rl - g) - 1)) (sp) (hm) on nd br) = 0)) rl 0))) (fun (hf_ : Nat → Int64) (bg_ : Nat → Int64) => [(y0, .inr (4, [.ref a0, .ref yi, .ref yk, .ref l0, .ref t0, .ref yn, .ref yt, .int (nI se), .ref ys, .int (tn), .ref ym])), (l0, .inr (0, [.ref lh, .ref lb])), (lh, .inl (E.2.1 2, 8, .inr (.inl (hf_)))), (lb, .inl (E.2.1 2, 6, .inr (.inl (bg_)))), (a0, .inr (2, [.int (nI nt), .int (nI pp), .int (nI rl), .int (hm), .int (sp), .int (td), .int (dt), .ref ao, .ref aw, .ref an, .ref ab, .ref av])), (ao, .inl (E.2.1 1, 8, .inl (on))), (aw, .inl (E.2.1 1, 8, .inl (wr))), (an, .inl (E.2.1 1, 8, .inl (nd))), (ab, .inl (E.2.1 1, 8, .inl (br)))])) 0 0 20 [(1, .int (nI i)), (0, .ref y0)] [] [(y0, .inr (4, [.ref a0, .ref yi, .ref yk, .ref l0, .ref t0, .ref yn, .ref yt, .int (nI se), .ref ys, .int (tn), .ref ym])), (l0, .inr (0, [.ref lh, .ref lb])), (lh, .inl (E.2.1 2, 8, .inr (.inl (openF hm on nd br hf rl)))), (lb, .inl (E.2.1 2, 6, .inr (.inl (gb)))), (a0, .inr (2, [.int (nI nt), .int (nI pp), .int (nI rl), .int (hm), .int (sp), .int (td), .int (dt), .ref ao, .ref aw, .ref an, .ref ab, .ref av])), (ao, .inl (E.2.1 1, 8, .inl (on))), (aw, .inl (E.2.1 1, 8, .inl (wr))), (an, .inl (E.2.1 1, 8, .inl (nd))), (ab, .inl (E.2.1 1, 8, .inl (br)))] := by
    intro D_20
    induction D_20 with
    | zero => intro i gb h; exact absurd h (Nat.not_lt_zero _)
    | succ D_20 ih_20 =>
      intro i gb hmu_20 h_20_0 h_20_1
      refine v_iload_n (pc := 20) 0 dX4_less_20 rfl rfl ?_
      refine v_aload_n (pc := 21) 1 dX4_less_21 rfl rfl ?_
      refine gf_240 (pc := 22) 0 dX4_less_22 rfl rfl ?_
      refine gf_96 (pc := 25) 4 dX4_less_25 rfl rfl ?_
      refine v_cmpN_ge (pc := 28) (a := i) (b := rl) 75 dX4_less_28 (by decide) (by omega) (by omega) (fun c_28 => ?_) (fun c_28 => ?_)
      · skip
        refine v_aload_n (pc := 75) 1 dX4_less_75 rfl rfl ?_
        refine gf_240 (pc := 76) 0 dX4_less_76 rfl rfl ?_
        refine gf_96 (pc := 79) 4 dX4_less_79 rfl rfl ?_
        refine v_iret (pc := 82) dX4_less_82 rfl ⟨rfl, rfl⟩ (RtE2.i (openF hm on nd br hf rl) (gb) ?_ ?_)
        · skip
          obtain rfl : i = rl := by omega
          rw [h_20_1, Nat.sub_self]; rfl
        · skip
          rfl
      · skip
        refine v_aload_n (pc := 31) 1 dX4_less_31 rfl rfl ?_
        refine gf_243 (pc := 32) 0 dX4_less_32 rfl rfl ?_
        refine v_aload_n (pc := 35) 1 dX4_less_35 rfl rfl ?_
        refine gf_240 (pc := 36) 0 dX4_less_36 rfl rfl ?_
        refine v_iconst (pc := 39) (v := 1) dX4_less_39 (by decide) ?_
        refine v_aload_n (pc := 40) 1 dX4_less_40 rfl rfl ?_
        refine gf_240 (pc := 41) 0 dX4_less_41 rfl rfl ?_
        refine gf_96 (pc := 44) 4 dX4_less_44 rfl rfl ?_
        refine v_iload_n (pc := 47) 0 dX4_less_47 rfl rfl ?_
        refine v_isub (pc := 48) dX4_less_48 ?_
        refine v_st (st' := [.int (nI (rl - i)), .int (1), .ref a0, .ref l0]) (by rw [pk_sub (by omega)]) ?_
        refine v_ishl (pc := 49) dX4_less_49 ?_
        refine v_iconst (pc := 50) (v := 1) dX4_less_50 (by decide) ?_
        refine v_isub (pc := 51) dX4_less_51 ?_
        refine v_st (st' := [.int (nI (2 ^ (rl - i) - 1)), .ref a0, .ref l0]) (by rw [pwm (by omega)]) ?_
        refine v_aload_n (pc := 52) 1 dX4_less_52 rfl rfl ?_
        refine gf_240 (pc := 53) 0 dX4_less_53 rfl rfl ?_
        refine gf_104 (pc := 56) 4 dX4_less_56 rfl rfl ?_
        refine v_callV (pc := 59) (rest := []) [1, 2, 3, 4, 6] 1 lk_595 (c_X0_agreeing l E l0 lh lb a0 ao aw an ab av nt pp rl hm sp td dt on wr nd br (nI (2 ^ (rl - i) - 1)) sp hm (openF hm on nd br hf rl) gb w (by first | assumption | omega) (by first | assumption | omega) (by first | assumption | omega) open_ho) dX4_less_59 rfl rfl (Nat.le_of_ble_eq_true rfl) (by decide) rfl rfl rfl (by decide) rfl (RtE1.len (fun _ => rfl)) (RtE1.go (fun bg_59 => ?_))
        refine v_w (ws' := [(y0, .inr (4, [.ref a0, .ref yi, .ref yk, .ref l0, .ref t0, .ref yn, .ref yt, .int (nI se), .ref ys, .int (tn), .ref ym])), (l0, .inr (0, [.ref lh, .ref lb])), (lh, .inl (E.2.1 2, 8, .inr (.inl ((openF hm on nd br hf rl))))), (lb, .inl (E.2.1 2, 6, .inr (.inl (bg_59)))), (a0, .inr (2, [.int (nI nt), .int (nI pp), .int (nI rl), .int (hm), .int (sp), .int (td), .int (dt), .ref ao, .ref aw, .ref an, .ref ab, .ref av])), (ao, .inl (E.2.1 1, 8, .inl (on))), (aw, .inl (E.2.1 1, 8, .inl (wr))), (an, .inl (E.2.1 1, 8, .inl (nd))), (ab, .inl (E.2.1 1, 8, .inl (br)))]) rfl ?_
        refine v_st (st' := [.long (ag nt rl w (nI (2 ^ (rl - i) - 1)) sp hm on nd br)]) rfl ?_
        refine v_lconst (pc := 62) (v := 0) dX4_less_62 (by decide) ?_
        refine v_lcmp (pc := 63) dX4_less_63 ?_
        refine v_lc_eq (pc := 64) 69 dX4_less_64 (by decide) (fun c_64 => ?_) (fun c_64 => ?_)
        · skip
          refine v_iinc (pc := 69) (v := nI (i + 1)) (lv' := [(1, .int (nI (i + 1))), (0, .ref y0)]) 0 dX4_less_69 rfl (nI_inc (i) 1) (by decide) rfl ?_
          refine v_goto (pc := 72) 20 dX4_less_72 (by decide) ?_
          refine v_lv (lv' := [(1, .int (nI (i + 1))), (0, .ref y0)]) [0, 1] rfl ?_
          refine ih_20 (i + 1) bg_59 (by omega) ?_ ?_
          · omega
          · rw [h_20_1, show rl - i = (rl - (i + 1)) + 1 by omega, lsF, if_neg (by simpa using c_64)]
        · skip
          refine v_iload_n (pc := 67) 0 dX4_less_67 rfl rfl ?_
          refine v_iret (pc := 68) dX4_less_68 rfl ⟨rfl, rfl⟩ (RtE2.i ((openF hm on nd br hf rl)) (bg_59) ?_ ?_)
          · skip
            rw [h_20_1, show rl - i = (rl - (i + 1)) + 1 by omega, lsF, if_pos (by simpa using c_64)]
          · skip
            rfl
  refine v_lv (lv' := [(1, .int (nI 0)), (0, .ref y0)]) [0, 1] rfl ?_
  refine loop_20 ((rl - 0) + 1) 0 bg (Nat.lt_succ_self _) ?_ ?_
  · omega
  · rfl
theorem c_X4_begins (l : Launch) (E : VE) (y0 : Nat) (yi : Nat) (yk : Nat) (t0 : Nat) (yn : Nat) (yt : Nat) (ys : Nat) (ym : Nat) (se : Nat) (tn : Int32) (l0 : Nat) (a0 : Nat) (ao : Nat) (aw : Nat) (an : Nat) (ab : Nat) (av : Nat) (nt : Nat) (pp : Nat) (rl : Nat) (hm : Int32) (sp : Int32) (td : Int32) (dt : Int32) (on : Nat → Int32) (wr : Nat → Int32) (nd : Nat → Int32) (br : Nat → Int32) (x : Int32) (h_rl : rl ≤ 8) (h_nt : nt ≤ 6) : Ct l E yX4_begins cX4_begins 2 (Option.some FieldType.int) 4 92 0 0 [.ref y0, .int (x)] [(y0, .inr (4, [.ref a0, .ref yi, .ref yk, .ref l0, .ref t0, .ref yn, .ref yt, .int (nI se), .ref ys, .int (tn), .ref ym])), (a0, .inr (2, [.int (nI nt), .int (nI pp), .int (nI rl), .int (hm), .int (sp), .int (td), .int (dt), .ref ao, .ref aw, .ref an, .ref ab, .ref av])), (ao, .inl (E.2.1 1, 8, .inl (on))), (aw, .inl (E.2.1 1, 8, .inl (wr))), (an, .inl (E.2.1 1, 8, .inl (nd))), (ab, .inl (E.2.1 1, 8, .inl (br)))] (Rt (some (.int (if ¬ x < 0 ∧ ¬ nI (2 ^ nt - 1) < x then begs rl hm sp on wr nd br x else -1))) [(y0, .inr (4, [.ref a0, .ref yi, .ref yk, .ref l0, .ref t0, .ref yn, .ref yt, .int (nI se), .ref ys, .int (tn), .ref ym])), (a0, .inr (2, [.int (nI nt), .int (nI pp), .int (nI rl), .int (hm), .int (sp), .int (td), .int (dt), .ref ao, .ref aw, .ref an, .ref ab, .ref av])), (ao, .inl (E.2.1 1, 8, .inl (on))), (aw, .inl (E.2.1 1, 8, .inl (wr))), (an, .inl (E.2.1 1, 8, .inl (nd))), (ab, .inl (E.2.1 1, 8, .inl (br)))]) := by
  refine Ct.of (own := RX4) (nm := "begins") (lv := [(0, .ref y0), (1, .int (x))]) (by decide) rfl rfl (Nat.le_of_ble_eq_true rfl) rfl ?_
  refine v_aload_n (pc := 0) 0 dX4_begins_0 rfl rfl ?_
  refine gf_240 (pc := 1) 0 dX4_begins_1 rfl rfl ?_
  refine v_iload_n (pc := 4) 1 dX4_begins_4 rfl rfl ?_
  refine v_callV (pc := 5) (rest := []) [1] 1 lk_510 (c_X2_hasSet l E a0 ao aw an ab av nt pp rl hm sp td dt x (by first | assumption | omega)) dX4_begins_5 rfl rfl (Nat.le_of_ble_eq_true rfl) (by decide) rfl rfl rfl (by decide) rfl (Rt.len rfl) (Rt.go ?_)
  refine v_w (ws' := [(y0, .inr (4, [.ref a0, .ref yi, .ref yk, .ref l0, .ref t0, .ref yn, .ref yt, .int (nI se), .ref ys, .int (tn), .ref ym])), (a0, .inr (2, [.int (nI nt), .int (nI pp), .int (nI rl), .int (hm), .int (sp), .int (td), .int (dt), .ref ao, .ref aw, .ref an, .ref ab, .ref av])), (ao, .inl (E.2.1 1, 8, .inl (on))), (aw, .inl (E.2.1 1, 8, .inl (wr))), (an, .inl (E.2.1 1, 8, .inl (nd))), (ab, .inl (E.2.1 1, 8, .inl (br)))]) rfl ?_
  refine v_st (st' := [.int (if ¬ x < 0 ∧ ¬ nI (2 ^ nt - 1) < x then 1 else 0)]) rfl ?_
  refine v_ifB_eq (pc := 8) 22 dX4_begins_8 (by decide) (fun c_8 => ?_) (fun c_8 => ?_)
  · skip
    refine v_iconst (pc := 22) (v := -1) dX4_begins_22 (by decide) ?_
    refine v_iret (pc := 23) dX4_begins_23 rfl ⟨rfl, rfl⟩ (Rt.i ?_)
    first | simp only [if_neg c_8] | rfl
  · skip
    refine v_aload_n (pc := 11) 0 dX4_begins_11 rfl rfl ?_
    refine gf_240 (pc := 12) 0 dX4_begins_12 rfl rfl ?_
    refine v_iload_n (pc := 15) 1 dX4_begins_15 rfl rfl ?_
    refine v_callV (pc := 16) (rest := []) [1, 2, 3, 4, 5] 1 lk_604 (c_X2_beginnings l E a0 ao aw an ab av nt pp rl hm sp td dt on wr nd br x (by first | assumption | omega)) dX4_begins_16 rfl rfl (Nat.le_of_ble_eq_true rfl) (by decide) rfl rfl rfl (by decide) rfl (Rt.len rfl) (Rt.go ?_)
    refine v_w (ws' := [(y0, .inr (4, [.ref a0, .ref yi, .ref yk, .ref l0, .ref t0, .ref yn, .ref yt, .int (nI se), .ref ys, .int (tn), .ref ym])), (a0, .inr (2, [.int (nI nt), .int (nI pp), .int (nI rl), .int (hm), .int (sp), .int (td), .int (dt), .ref ao, .ref aw, .ref an, .ref ab, .ref av])), (ao, .inl (E.2.1 1, 8, .inl (on))), (aw, .inl (E.2.1 1, 8, .inl (wr))), (an, .inl (E.2.1 1, 8, .inl (nd))), (ab, .inl (E.2.1 1, 8, .inl (br)))]) rfl ?_
    refine v_st (st' := [.int (begs rl hm sp on wr nd br x)]) rfl ?_
    refine v_goto (pc := 19) 23 dX4_begins_19 (by decide) ?_
    refine v_iret (pc := 23) dX4_begins_23 rfl ⟨rfl, rfl⟩ (Rt.i ?_)
    first | simp only [if_pos c_8] | rfl
theorem c_X4_wrote (l : Launch) (E : VE) (y0 : Nat) (yi : Nat) (yk : Nat) (t0 : Nat) (yn : Nat) (yt : Nat) (ys : Nat) (ym : Nat) (se : Nat) (tn : Int32) (l0 : Nat) (a0 : Nat) (ao : Nat) (aw : Nat) (an : Nat) (ab : Nat) (av : Nat) (nt : Nat) (pp : Nat) (rl : Nat) (hm : Int32) (sp : Int32) (td : Int32) (dt : Int32) (on : Nat → Int32) (wr : Nat → Int32) (nd : Nat → Int32) (br : Nat → Int32) (x : Int32) (n : Int32) (h_rl : rl ≤ 8) (h_nt : nt ≤ 6) : Ct l E yX4_wrote cX4_wrote 3 (Option.some FieldType.int) 3 67 0 0 [.ref y0, .int (x), .int (n)] [(y0, .inr (4, [.ref a0, .ref yi, .ref yk, .ref l0, .ref t0, .ref yn, .ref yt, .int (nI se), .ref ys, .int (tn), .ref ym])), (a0, .inr (2, [.int (nI nt), .int (nI pp), .int (nI rl), .int (hm), .int (sp), .int (td), .int (dt), .ref ao, .ref aw, .ref an, .ref ab, .ref av])), (ao, .inl (E.2.1 1, 8, .inl (on))), (aw, .inl (E.2.1 1, 8, .inl (wr))), (an, .inl (E.2.1 1, 8, .inl (nd))), (ab, .inl (E.2.1 1, 8, .inl (br)))] (Rt (some (.int (if ¬ x < 0 ∧ ¬ nI (2 ^ nt - 1) < x then (if okN n nt then wrts rl hm on wr nd br x n else -1) else -1))) [(y0, .inr (4, [.ref a0, .ref yi, .ref yk, .ref l0, .ref t0, .ref yn, .ref yt, .int (nI se), .ref ys, .int (tn), .ref ym])), (a0, .inr (2, [.int (nI nt), .int (nI pp), .int (nI rl), .int (hm), .int (sp), .int (td), .int (dt), .ref ao, .ref aw, .ref an, .ref ab, .ref av])), (ao, .inl (E.2.1 1, 8, .inl (on))), (aw, .inl (E.2.1 1, 8, .inl (wr))), (an, .inl (E.2.1 1, 8, .inl (nd))), (ab, .inl (E.2.1 1, 8, .inl (br)))]) := by
  refine Ct.of (own := RX4) (nm := "wrote") (lv := [(0, .ref y0), (1, .int (x)), (2, .int (n))]) (by decide) rfl rfl (Nat.le_of_ble_eq_true rfl) rfl ?_
  refine v_aload_n (pc := 0) 0 dX4_wrote_0 rfl rfl ?_
  refine gf_240 (pc := 1) 0 dX4_wrote_1 rfl rfl ?_
  refine v_iload_n (pc := 4) 1 dX4_wrote_4 rfl rfl ?_
  refine v_callV (pc := 5) (rest := []) [1] 1 lk_510 (c_X2_hasSet l E a0 ao aw an ab av nt pp rl hm sp td dt x (by first | assumption | omega)) dX4_wrote_5 rfl rfl (Nat.le_of_ble_eq_true rfl) (by decide) rfl rfl rfl (by decide) rfl (Rt.len rfl) (Rt.go ?_)
  refine v_w (ws' := [(y0, .inr (4, [.ref a0, .ref yi, .ref yk, .ref l0, .ref t0, .ref yn, .ref yt, .int (nI se), .ref ys, .int (tn), .ref ym])), (a0, .inr (2, [.int (nI nt), .int (nI pp), .int (nI rl), .int (hm), .int (sp), .int (td), .int (dt), .ref ao, .ref aw, .ref an, .ref ab, .ref av])), (ao, .inl (E.2.1 1, 8, .inl (on))), (aw, .inl (E.2.1 1, 8, .inl (wr))), (an, .inl (E.2.1 1, 8, .inl (nd))), (ab, .inl (E.2.1 1, 8, .inl (br)))]) rfl ?_
  refine v_st (st' := [.int (if ¬ x < 0 ∧ ¬ nI (2 ^ nt - 1) < x then 1 else 0)]) rfl ?_
  refine v_ifB_eq (pc := 8) 34 dX4_wrote_8 (by decide) (fun c_8 => ?_) (fun c_8 => ?_)
  · skip
    refine v_iconst (pc := 34) (v := -1) dX4_wrote_34 (by decide) ?_
    refine v_iret (pc := 35) dX4_wrote_35 rfl ⟨rfl, rfl⟩ (Rt.i ?_)
    first | simp only [if_neg c_8] | rfl
  · skip
    refine v_aload_n (pc := 11) 0 dX4_wrote_11 rfl rfl ?_
    refine gf_240 (pc := 12) 0 dX4_wrote_12 rfl rfl ?_
    refine v_iload_n (pc := 15) 2 dX4_wrote_15 rfl rfl ?_
    refine v_callV (pc := 16) (rest := []) [1] 1 lk_462 (c_X2_hasNote l E a0 ao aw an ab av nt pp rl hm sp td dt n) dX4_wrote_16 rfl rfl (Nat.le_of_ble_eq_true rfl) (by decide) rfl rfl rfl (by decide) rfl (Rt.len rfl) (Rt.go ?_)
    refine v_w (ws' := [(y0, .inr (4, [.ref a0, .ref yi, .ref yk, .ref l0, .ref t0, .ref yn, .ref yt, .int (nI se), .ref ys, .int (tn), .ref ym])), (a0, .inr (2, [.int (nI nt), .int (nI pp), .int (nI rl), .int (hm), .int (sp), .int (td), .int (dt), .ref ao, .ref aw, .ref an, .ref ab, .ref av])), (ao, .inl (E.2.1 1, 8, .inl (on))), (aw, .inl (E.2.1 1, 8, .inl (wr))), (an, .inl (E.2.1 1, 8, .inl (nd))), (ab, .inl (E.2.1 1, 8, .inl (br)))]) rfl ?_
    refine v_st (st' := [.int (if okN n nt then 1 else 0)]) rfl ?_
    refine v_ifB_eq (pc := 19) 34 dX4_wrote_19 (by decide) (fun c_19 => ?_) (fun c_19 => ?_)
    · skip
      refine v_iconst (pc := 34) (v := -1) dX4_wrote_34 (by decide) ?_
      refine v_iret (pc := 35) dX4_wrote_35 rfl ⟨rfl, rfl⟩ (Rt.i ?_)
      first | simp only [if_pos c_8, if_neg c_19] | rfl
    · skip
      refine v_aload_n (pc := 22) 0 dX4_wrote_22 rfl rfl ?_
      refine gf_240 (pc := 23) 0 dX4_wrote_23 rfl rfl ?_
      refine v_iload_n (pc := 26) 1 dX4_wrote_26 rfl rfl ?_
      refine v_iload_n (pc := 27) 2 dX4_wrote_27 rfl rfl ?_
      refine v_callV (pc := 28) (rest := []) [1, 2, 3, 4, 5] 1 lk_621 (c_X2_writers l E a0 ao aw an ab av nt pp rl hm sp td dt on wr nd br x n (by first | assumption | omega)) dX4_wrote_28 rfl rfl (Nat.le_of_ble_eq_true rfl) (by decide) rfl rfl rfl (by decide) rfl (Rt.len rfl) (Rt.go ?_)
      refine v_w (ws' := [(y0, .inr (4, [.ref a0, .ref yi, .ref yk, .ref l0, .ref t0, .ref yn, .ref yt, .int (nI se), .ref ys, .int (tn), .ref ym])), (a0, .inr (2, [.int (nI nt), .int (nI pp), .int (nI rl), .int (hm), .int (sp), .int (td), .int (dt), .ref ao, .ref aw, .ref an, .ref ab, .ref av])), (ao, .inl (E.2.1 1, 8, .inl (on))), (aw, .inl (E.2.1 1, 8, .inl (wr))), (an, .inl (E.2.1 1, 8, .inl (nd))), (ab, .inl (E.2.1 1, 8, .inl (br)))]) rfl ?_
      refine v_st (st' := [.int (wrts rl hm on wr nd br x n)]) rfl ?_
      refine v_goto (pc := 31) 35 dX4_wrote_31 (by decide) ?_
      refine v_iret (pc := 35) dX4_wrote_35 rfl ⟨rfl, rfl⟩ (Rt.i ?_)
      first | simp only [if_pos c_8, if_pos c_19] | rfl
theorem c_X4_pure (l : Launch) (E : VE) (y0 : Nat) (yi : Nat) (yk : Nat) (t0 : Nat) (yn : Nat) (yt : Nat) (ys : Nat) (ym : Nat) (se : Nat) (tn : Int32) (l0 : Nat) (lh : Nat) (lb : Nat) (a0 : Nat) (ao : Nat) (aw : Nat) (an : Nat) (ab : Nat) (av : Nat) (nt : Nat) (pp : Nat) (rl : Nat) (hm : Int32) (sp : Int32) (td : Int32) (dt : Int32) (on : Nat → Int32) (wr : Nat → Int32) (nd : Nat → Int32) (br : Nat → Int32) (hf : Nat → Int64) (bg : Nat → Int64) (x : Int32) (w : Nat → Nat) (h_rl : rl ≤ 8) (h_nt : nt ≤ 6) (h_wr : ∀ k, k < rl → wr k = nI (w k) ∧ w k < 6) : Ct l E yX4_pure cX4_pure 5 (Option.some FieldType.int) 4 92 0 0 [.ref y0, .int (x)] [(y0, .inr (4, [.ref a0, .ref yi, .ref yk, .ref l0, .ref t0, .ref yn, .ref yt, .int (nI se), .ref ys, .int (tn), .ref ym])), (l0, .inr (0, [.ref lh, .ref lb])), (lh, .inl (E.2.1 2, 8, .inr (.inl (hf)))), (lb, .inl (E.2.1 2, 6, .inr (.inl (bg)))), (a0, .inr (2, [.int (nI nt), .int (nI pp), .int (nI rl), .int (hm), .int (sp), .int (td), .int (dt), .ref ao, .ref aw, .ref an, .ref ab, .ref av])), (ao, .inl (E.2.1 1, 8, .inl (on))), (aw, .inl (E.2.1 1, 8, .inl (wr))), (an, .inl (E.2.1 1, 8, .inl (nd))), (ab, .inl (E.2.1 1, 8, .inl (br)))] (RtE2 (some (.int (if x = 0 ∨ x = 1 then (if x = 0 then bcl (purK (fun s => begs rl hm sp on wr nd br (nI s)) (ag nt rl w (nI (2 ^ rl - 1)) sp hm on nd br) (2 ^ nt)) else lstF (inL (purK (fun s => begs rl hm sp on wr nd br (nI s)) (ag nt rl w (nI (2 ^ rl - 1)) sp hm on nd br) (2 ^ nt))) 64 0) else -1))) (fun (hf_ : Nat → Int64) (bg_ : Nat → Int64) => [(y0, .inr (4, [.ref a0, .ref yi, .ref yk, .ref l0, .ref t0, .ref yn, .ref yt, .int (nI se), .ref ys, .int (tn), .ref ym])), (l0, .inr (0, [.ref lh, .ref lb])), (lh, .inl (E.2.1 2, 8, .inr (.inl (hf_)))), (lb, .inl (E.2.1 2, 6, .inr (.inl (bg_)))), (a0, .inr (2, [.int (nI nt), .int (nI pp), .int (nI rl), .int (hm), .int (sp), .int (td), .int (dt), .ref ao, .ref aw, .ref an, .ref ab, .ref av])), (ao, .inl (E.2.1 1, 8, .inl (on))), (aw, .inl (E.2.1 1, 8, .inl (wr))), (an, .inl (E.2.1 1, 8, .inl (nd))), (ab, .inl (E.2.1 1, 8, .inl (br)))])) := by
  refine Ct.of (own := RX4) (nm := "pure") (lv := [(0, .ref y0), (1, .int (x))]) (by decide) rfl rfl (Nat.le_of_ble_eq_true rfl) rfl ?_
  refine v_iload_n (pc := 0) 1 dX4_pure_0 rfl rfl ?_
  refine v_callS (pc := 1) (rest := []) [] lk_531 (c_X4_isYesNo l E x) dX4_pure_1 rfl rfl (Nat.le_of_ble_eq_true rfl) (by decide) (by decide) rfl (Rt.len rfl) (Rt.go ?_)
  refine v_w (ws' := [(y0, .inr (4, [.ref a0, .ref yi, .ref yk, .ref l0, .ref t0, .ref yn, .ref yt, .int (nI se), .ref ys, .int (tn), .ref ym])), (l0, .inr (0, [.ref lh, .ref lb])), (lh, .inl (E.2.1 2, 8, .inr (.inl (hf)))), (lb, .inl (E.2.1 2, 6, .inr (.inl (bg)))), (a0, .inr (2, [.int (nI nt), .int (nI pp), .int (nI rl), .int (hm), .int (sp), .int (td), .int (dt), .ref ao, .ref aw, .ref an, .ref ab, .ref av])), (ao, .inl (E.2.1 1, 8, .inl (on))), (aw, .inl (E.2.1 1, 8, .inl (wr))), (an, .inl (E.2.1 1, 8, .inl (nd))), (ab, .inl (E.2.1 1, 8, .inl (br)))]) rfl ?_
  refine v_st (st' := [.int (if x = 0 ∨ x = 1 then 1 else 0)]) rfl ?_
  refine v_ifB_ne (pc := 4) 9 dX4_pure_4 (by decide) (fun c_4 => ?_) (fun c_4 => ?_)
  · skip
    refine v_aload_n (pc := 9) 0 dX4_pure_9 rfl rfl ?_
    refine gf_243 (pc := 10) 0 dX4_pure_10 rfl rfl ?_
    refine v_aload_n (pc := 13) 0 dX4_pure_13 rfl rfl ?_
    refine gf_240 (pc := 14) 0 dX4_pure_14 rfl rfl ?_
    refine v_callV (pc := 17) (rest := []) [1, 2, 3, 4, 5, 6, 7, 8] 1 lk_539 (c_X0_agreeingNow l E l0 lh lb a0 ao aw an ab av nt pp rl hm sp td dt on wr nd br hf bg w (by first | assumption | omega) (by first | assumption | omega) (by first | assumption | omega)) dX4_pure_17 rfl rfl (Nat.le_of_ble_eq_true rfl) (by decide) rfl rfl rfl (by decide) rfl (RtE2.len (fun _ _ => rfl)) (RtE2.go (fun hf_17 bg_17 => ?_))
    refine v_w (ws' := [(y0, .inr (4, [.ref a0, .ref yi, .ref yk, .ref l0, .ref t0, .ref yn, .ref yt, .int (nI se), .ref ys, .int (tn), .ref ym])), (l0, .inr (0, [.ref lh, .ref lb])), (lh, .inl (E.2.1 2, 8, .inr (.inl (hf_17)))), (lb, .inl (E.2.1 2, 6, .inr (.inl (bg_17)))), (a0, .inr (2, [.int (nI nt), .int (nI pp), .int (nI rl), .int (hm), .int (sp), .int (td), .int (dt), .ref ao, .ref aw, .ref an, .ref ab, .ref av])), (ao, .inl (E.2.1 1, 8, .inl (on))), (aw, .inl (E.2.1 1, 8, .inl (wr))), (an, .inl (E.2.1 1, 8, .inl (nd))), (ab, .inl (E.2.1 1, 8, .inl (br)))]) rfl ?_
    refine v_st (st' := [.long (ag nt rl w (nI (2 ^ rl - 1)) sp hm on nd br)]) rfl ?_
    refine v_lstore_n (pc := 20) (lv' := [(2, .long (ag nt rl w (nI (2 ^ rl - 1)) sp hm on nd br)), (0, .ref y0), (1, .int (x))]) dX4_pure_20 rfl (by decide) rfl ?_
    have h64 := p64 h_nt
    have h0p := p1 nt
    refine v_iconst (pc := 21) (v := 0) dX4_pure_21 (by decide) ?_
    refine v_istore (pc := 22) (lv' := [(4, .int (0)), (2, .long (ag nt rl w (nI (2 ^ rl - 1)) sp hm on nd br)), (0, .ref y0), (1, .int (x))]) dX4_pure_22 (by decide) rfl ?_
    have loop_24 : ∀ (D_24 : Nat) (i : Nat) (acc : Int64), 2 ^ nt - i < D_24 → (i ≤ 2 ^ nt) → (acc = purK (fun s => begs rl hm sp on wr nd br (nI s)) (ag nt rl w (nI (2 ^ rl - 1)) sp hm on nd br) i) → V l E RX4 cX4_pure 5 (Option.some FieldType.int) "pure" ({ frames := 4, cells := 0, slots := 0, locals := 92 }) [(y0, .inr (4, [.ref a0, .ref yi, .ref yk, .ref l0, .ref t0, .ref yn, .ref yt, .int (nI se), .ref ys, .int (tn), .ref ym])), (l0, .inr (0, [.ref lh, .ref lb])), (lh, .inl (E.2.1 2, 8, .inr (.inl (hf)))), (lb, .inl (E.2.1 2, 6, .inr (.inl (bg)))), (a0, .inr (2, [.int (nI nt), .int (nI pp), .int (nI rl), .int (hm), .int (sp), .int (td), .int (dt), .ref ao, .ref aw, .ref an, .ref ab, .ref av])), (ao, .inl (E.2.1 1, 8, .inl (on))), (aw, .inl (E.2.1 1, 8, .inl (wr))), (an, .inl (E.2.1 1, 8, .inl (nd))), (ab, .inl (E.2.1 1, 8, .inl (br)))] 0 0 (RtE2 (some (.int (if x = 0 ∨ x = 1 then (if x = 0 then bcl (purK (fun s => begs rl hm sp on wr nd br (nI s)) (ag nt rl w (nI (2 ^ rl - 1)) sp hm on nd br) (2 ^ nt)) else lstF (inL (purK (fun s => begs rl hm sp on wr nd br (nI s)) (ag nt rl w (nI (2 ^ rl - 1)) sp hm on nd br) (2 ^ nt))) 64 0) else -1))) (fun (hf_ : Nat → Int64) (bg_ : Nat → Int64) => [(y0, .inr (4, [.ref a0, .ref yi, .ref yk, .ref l0, .ref t0, .ref yn, .ref yt, .int (nI se), .ref ys, .int (tn), .ref ym])), (l0, .inr (0, [.ref lh, .ref lb])), (lh, .inl (E.2.1 2, 8, .inr (.inl (hf_)))), (lb, .inl (E.2.1 2, 6, .inr (.inl (bg_)))), (a0, .inr (2, [.int (nI nt), .int (nI pp), .int (nI rl), .int (hm), .int (sp), .int (td), .int (dt), .ref ao, .ref aw, .ref an, .ref ab, .ref av])), (ao, .inl (E.2.1 1, 8, .inl (on))), (aw, .inl (E.2.1 1, 8, .inl (wr))), (an, .inl (E.2.1 1, 8, .inl (nd))), (ab, .inl (E.2.1 1, 8, .inl (br)))])) 0 0 24 [(4, .int (nI i)), (2, .long (acc)), (0, .ref y0), (1, .int (x))] [] [(y0, .inr (4, [.ref a0, .ref yi, .ref yk, .ref l0, .ref t0, .ref yn, .ref yt, .int (nI se), .ref ys, .int (tn), .ref ym])), (l0, .inr (0, [.ref lh, .ref lb])), (lh, .inl (E.2.1 2, 8, .inr (.inl (hf_17)))), (lb, .inl (E.2.1 2, 6, .inr (.inl (bg_17)))), (a0, .inr (2, [.int (nI nt), .int (nI pp), .int (nI rl), .int (hm), .int (sp), .int (td), .int (dt), .ref ao, .ref aw, .ref an, .ref ab, .ref av])), (ao, .inl (E.2.1 1, 8, .inl (on))), (aw, .inl (E.2.1 1, 8, .inl (wr))), (an, .inl (E.2.1 1, 8, .inl (nd))), (ab, .inl (E.2.1 1, 8, .inl (br)))] := by
      intro D_24
      induction D_24 with
      | zero => intro i acc h; exact absurd h (Nat.not_lt_zero _)
      | succ D_24 ih_24 =>
        intro i acc hmu_24 h_24_0 h_24_1
        refine v_iload (pc := 24) 0 dX4_pure_24 rfl ?_
        refine v_aload_n (pc := 26) 2 dX4_pure_26 rfl rfl ?_
        refine gf_240 (pc := 27) 0 dX4_pure_27 rfl rfl ?_
        refine v_callV (pc := 30) (rest := [.int (nI i)]) [4] 4 lk_616 (c_X2_allNotes l E a0 ao aw an ab av nt pp rl hm sp td dt (by first | assumption | omega)) dX4_pure_30 rfl rfl (Nat.le_of_ble_eq_true rfl) (by decide) rfl rfl rfl (by decide) rfl (Rt.len rfl) (Rt.go ?_)
        refine v_w (ws' := [(y0, .inr (4, [.ref a0, .ref yi, .ref yk, .ref l0, .ref t0, .ref yn, .ref yt, .int (nI se), .ref ys, .int (tn), .ref ym])), (l0, .inr (0, [.ref lh, .ref lb])), (lh, .inl (E.2.1 2, 8, .inr (.inl (hf_17)))), (lb, .inl (E.2.1 2, 6, .inr (.inl (bg_17)))), (a0, .inr (2, [.int (nI nt), .int (nI pp), .int (nI rl), .int (hm), .int (sp), .int (td), .int (dt), .ref ao, .ref aw, .ref an, .ref ab, .ref av])), (ao, .inl (E.2.1 1, 8, .inl (on))), (aw, .inl (E.2.1 1, 8, .inl (wr))), (an, .inl (E.2.1 1, 8, .inl (nd))), (ab, .inl (E.2.1 1, 8, .inl (br)))]) rfl ?_
        refine v_st (st' := [.int (nI (2 ^ nt - 1)), .int (nI i)]) rfl ?_
        refine v_cmpN_gt (pc := 33) (a := i) (b := 2 ^ nt - 1) 76 dX4_pure_33 (by decide) (by omega) (by omega) (fun c_33 => ?_) (fun c_33 => ?_)
        · skip
          refine v_iload_n (pc := 76) 3 dX4_pure_76 rfl rfl ?_
          refine v_if_ne (pc := 77) 87 dX4_pure_77 (by decide) (fun c_77 => ?_) (fun c_77 => ?_)
          · skip
            refine v_lload_n (pc := 87) 1 dX4_pure_87 rfl rfl ?_
            refine v_callS (pc := 88) (rest := []) [] lk_571 (c_X4_leastOf l E acc) dX4_pure_88 rfl rfl (Nat.le_of_ble_eq_true rfl) (by decide) (by decide) rfl (Rt.len rfl) (Rt.go ?_)
            refine v_w (ws' := [(y0, .inr (4, [.ref a0, .ref yi, .ref yk, .ref l0, .ref t0, .ref yn, .ref yt, .int (nI se), .ref ys, .int (tn), .ref ym])), (l0, .inr (0, [.ref lh, .ref lb])), (lh, .inl (E.2.1 2, 8, .inr (.inl (hf_17)))), (lb, .inl (E.2.1 2, 6, .inr (.inl (bg_17)))), (a0, .inr (2, [.int (nI nt), .int (nI pp), .int (nI rl), .int (hm), .int (sp), .int (td), .int (dt), .ref ao, .ref aw, .ref an, .ref ab, .ref av])), (ao, .inl (E.2.1 1, 8, .inl (on))), (aw, .inl (E.2.1 1, 8, .inl (wr))), (an, .inl (E.2.1 1, 8, .inl (nd))), (ab, .inl (E.2.1 1, 8, .inl (br)))]) rfl ?_
            refine v_st (st' := [.int (lstF (inL acc) 64 0)]) rfl ?_
            refine v_iret (pc := 91) dX4_pure_91 rfl ⟨rfl, rfl⟩ (RtE2.i (hf_17) (bg_17) ?_ ?_)
            · skip
              obtain rfl : i = 2 ^ nt := by omega
              rw [h_24_1, if_pos c_4, if_neg c_77]
            · skip
              rfl
          · skip
            refine v_lload_n (pc := 80) 1 dX4_pure_80 rfl rfl ?_
            refine v_callS (pc := 81) (rest := []) [] lk_565 (c_J13_bitCount_95d88 l E acc) dX4_pure_81 rfl rfl (Nat.le_of_ble_eq_true rfl) (by decide) (by decide) rfl (Rt.len rfl) (Rt.go ?_)
            refine v_w (ws' := [(y0, .inr (4, [.ref a0, .ref yi, .ref yk, .ref l0, .ref t0, .ref yn, .ref yt, .int (nI se), .ref ys, .int (tn), .ref ym])), (l0, .inr (0, [.ref lh, .ref lb])), (lh, .inl (E.2.1 2, 8, .inr (.inl (hf_17)))), (lb, .inl (E.2.1 2, 6, .inr (.inl (bg_17)))), (a0, .inr (2, [.int (nI nt), .int (nI pp), .int (nI rl), .int (hm), .int (sp), .int (td), .int (dt), .ref ao, .ref aw, .ref an, .ref ab, .ref av])), (ao, .inl (E.2.1 1, 8, .inl (on))), (aw, .inl (E.2.1 1, 8, .inl (wr))), (an, .inl (E.2.1 1, 8, .inl (nd))), (ab, .inl (E.2.1 1, 8, .inl (br)))]) rfl ?_
            refine v_st (st' := [.int (bcl acc)]) rfl ?_
            refine v_goto (pc := 84) 91 dX4_pure_84 (by decide) ?_
            refine v_iret (pc := 91) dX4_pure_91 rfl ⟨rfl, rfl⟩ (RtE2.i (hf_17) (bg_17) ?_ ?_)
            · skip
              obtain rfl : i = 2 ^ nt := by omega
              rw [h_24_1, if_pos c_4, if_pos c_77]
            · skip
              rfl
        · skip
          refine v_iload (pc := 36) 0 dX4_pure_36 rfl ?_
          refine v_lload_n (pc := 38) 1 dX4_pure_38 rfl rfl ?_
          refine v_callS (pc := 39) (rest := []) [] lk_574 (c_X4_isAmong l E (nI i) acc) dX4_pure_39 rfl rfl (Nat.le_of_ble_eq_true rfl) (by decide) (by decide) rfl (Rt.len rfl) (Rt.go ?_)
          refine v_w (ws' := [(y0, .inr (4, [.ref a0, .ref yi, .ref yk, .ref l0, .ref t0, .ref yn, .ref yt, .int (nI se), .ref ys, .int (tn), .ref ym])), (l0, .inr (0, [.ref lh, .ref lb])), (lh, .inl (E.2.1 2, 8, .inr (.inl (hf_17)))), (lb, .inl (E.2.1 2, 6, .inr (.inl (bg_17)))), (a0, .inr (2, [.int (nI nt), .int (nI pp), .int (nI rl), .int (hm), .int (sp), .int (td), .int (dt), .ref ao, .ref aw, .ref an, .ref ab, .ref av])), (ao, .inl (E.2.1 1, 8, .inl (on))), (aw, .inl (E.2.1 1, 8, .inl (wr))), (an, .inl (E.2.1 1, 8, .inl (nd))), (ab, .inl (E.2.1 1, 8, .inl (br)))]) rfl ?_
          refine v_st (st' := [.int (if isIn (nI i) acc then 1 else 0)]) rfl ?_
          refine v_ifB_eq (pc := 42) 70 dX4_pure_42 (by decide) (fun c_42 => ?_) (fun c_42 => ?_)
          · skip
            refine v_iinc (pc := 70) (v := nI (i + 1)) (lv' := [(4, .int (nI (i + 1))), (2, .long (acc)), (0, .ref y0), (1, .int (x))]) 0 dX4_pure_70 rfl (nI_inc (i) 1) (by decide) rfl ?_
            refine v_goto (pc := 73) 24 dX4_pure_73 (by decide) ?_
            refine v_lv (lv' := [(4, .int (nI (i + 1))), (2, .long (acc)), (0, .ref y0), (1, .int (x))]) [0, 1, 2, 3] rfl ?_
            refine ih_24 (i + 1) acc (by omega) ?_ ?_
            · omega
            · simp only [purK]; rw [← h_24_1, if_neg (fun q => c_42 q.1)]
          · skip
            refine v_aload_n (pc := 45) 2 dX4_pure_45 rfl rfl ?_
            refine gf_240 (pc := 46) 0 dX4_pure_46 rfl rfl ?_
            refine v_iload (pc := 49) 0 dX4_pure_49 rfl ?_
            refine v_callV (pc := 51) (rest := []) [4, 5, 6, 7, 8] 4 lk_604 (c_X2_beginnings l E a0 ao aw an ab av nt pp rl hm sp td dt on wr nd br (nI i) (by first | assumption | omega)) dX4_pure_51 rfl rfl (Nat.le_of_ble_eq_true rfl) (by decide) rfl rfl rfl (by decide) rfl (Rt.len rfl) (Rt.go ?_)
            refine v_w (ws' := [(y0, .inr (4, [.ref a0, .ref yi, .ref yk, .ref l0, .ref t0, .ref yn, .ref yt, .int (nI se), .ref ys, .int (tn), .ref ym])), (l0, .inr (0, [.ref lh, .ref lb])), (lh, .inl (E.2.1 2, 8, .inr (.inl (hf_17)))), (lb, .inl (E.2.1 2, 6, .inr (.inl (bg_17)))), (a0, .inr (2, [.int (nI nt), .int (nI pp), .int (nI rl), .int (hm), .int (sp), .int (td), .int (dt), .ref ao, .ref aw, .ref an, .ref ab, .ref av])), (ao, .inl (E.2.1 1, 8, .inl (on))), (aw, .inl (E.2.1 1, 8, .inl (wr))), (an, .inl (E.2.1 1, 8, .inl (nd))), (ab, .inl (E.2.1 1, 8, .inl (br)))]) rfl ?_
            refine v_st (st' := [.int (begs rl hm sp on wr nd br (nI i))]) rfl ?_
            refine v_iload (pc := 54) 0 dX4_pure_54 rfl ?_
            refine v_icmp_eq (pc := 56) 70 dX4_pure_56 (by decide) (fun c_56 => ?_) (fun c_56 => ?_)
            · skip
              refine v_iinc (pc := 70) (v := nI (i + 1)) (lv' := [(4, .int (nI (i + 1))), (2, .long (acc)), (0, .ref y0), (1, .int (x))]) 0 dX4_pure_70 rfl (nI_inc (i) 1) (by decide) rfl ?_
              refine v_goto (pc := 73) 24 dX4_pure_73 (by decide) ?_
              refine v_lv (lv' := [(4, .int (nI (i + 1))), (2, .long (acc)), (0, .ref y0), (1, .int (x))]) [0, 1, 2, 3] rfl ?_
              refine ih_24 (i + 1) acc (by omega) ?_ ?_
              · omega
              · simp only [purK]; rw [← h_24_1, if_neg (fun q => q.2 c_56)]
            · skip
              refine v_lload_n (pc := 59) 1 dX4_pure_59 rfl rfl ?_
              refine v_lconst (pc := 60) (v := 1) dX4_pure_60 (by decide) ?_
              refine v_iload (pc := 61) 0 dX4_pure_61 rfl ?_
              refine v_lshl (pc := 63) dX4_pure_63 ?_
              refine v_ldc2 (pc := 64) dX4_pure_64 tb_585 ?_
              refine v_lxor (pc := 67) dX4_pure_67 ?_
              refine v_land (pc := 68) dX4_pure_68 ?_
              refine v_lstore_n (pc := 69) (lv' := [(2, .long ((acc) &&& (((1 : Int64) <<< (Int32.toInt64 (nI i) &&& 63)) ^^^ ((-1))))), (4, .int (nI i)), (0, .ref y0), (1, .int (x))]) dX4_pure_69 rfl (by decide) rfl ?_
              refine v_iinc (pc := 70) (v := nI (i + 1)) (lv' := [(4, .int (nI (i + 1))), (2, .long ((acc) &&& (((1 : Int64) <<< (Int32.toInt64 (nI i) &&& 63)) ^^^ ((-1))))), (0, .ref y0), (1, .int (x))]) 1 dX4_pure_70 rfl (nI_inc (i) 1) (by decide) rfl ?_
              refine v_goto (pc := 73) 24 dX4_pure_73 (by decide) ?_
              refine v_lv (lv' := [(4, .int (nI (i + 1))), (2, .long ((acc) &&& (((1 : Int64) <<< (Int32.toInt64 (nI i) &&& 63)) ^^^ ((-1))))), (0, .ref y0), (1, .int (x))]) [0, 1, 2, 3] rfl ?_
              refine ih_24 (i + 1) ((acc) &&& (((1 : Int64) <<< (Int32.toInt64 (nI i) &&& 63)) ^^^ ((-1)))) (by omega) ?_ ?_
              · omega
              · simp only [purK]; rw [← h_24_1, if_pos ⟨c_42, c_56⟩]
    refine v_lv (lv' := [(4, .int (nI 0)), (2, .long (ag nt rl w (nI (2 ^ rl - 1)) sp hm on nd br)), (0, .ref y0), (1, .int (x))]) [0, 1, 2, 3] rfl ?_
    refine loop_24 ((2 ^ nt - 0) + 1) 0 (ag nt rl w (nI (2 ^ rl - 1)) sp hm on nd br) (Nat.lt_succ_self _) ?_ ?_
    · omega
    · rfl
  · skip
    refine v_iconst (pc := 7) (v := -1) dX4_pure_7 (by decide) ?_
    refine v_iret (pc := 8) dX4_pure_8 rfl ⟨rfl, rfl⟩ (RtE2.i (hf) (bg) ?_ ?_)
    · skip
      first | simp only [if_neg c_4] | rfl
    · skip
      first | simp only [if_neg c_4] | rfl
theorem c_X4_could (l : Launch) (E : VE) (y0 : Nat) (yi : Nat) (yk : Nat) (t0 : Nat) (yn : Nat) (yt : Nat) (ys : Nat) (ym : Nat) (se : Nat) (tn : Int32) (l0 : Nat) (lh : Nat) (lb : Nat) (a0 : Nat) (ao : Nat) (aw : Nat) (an : Nat) (ab : Nat) (av : Nat) (nt : Nat) (pp : Nat) (rl : Nat) (hm : Int32) (sp : Int32) (td : Int32) (dt : Int32) (on : Nat → Int32) (wr : Nat → Int32) (nd : Nat → Int32) (br : Nat → Int32) (hf : Nat → Int64) (bg : Nat → Int64) (n : Int32) (w : Nat → Nat) (h_rl : rl ≤ 8) (h_nt : nt ≤ 6) (h_wr : ∀ k, k < rl → wr k = nI (w k) ∧ w k < 6) : Ct l E yX4_could cX4_could 6 (Option.some FieldType.int) 4 90 0 0 [.ref y0, .int (n)] [(y0, .inr (4, [.ref a0, .ref yi, .ref yk, .ref l0, .ref t0, .ref yn, .ref yt, .int (nI se), .ref ys, .int (tn), .ref ym])), (l0, .inr (0, [.ref lh, .ref lb])), (lh, .inl (E.2.1 2, 8, .inr (.inl (hf)))), (lb, .inl (E.2.1 2, 6, .inr (.inl (bg)))), (a0, .inr (2, [.int (nI nt), .int (nI pp), .int (nI rl), .int (hm), .int (sp), .int (td), .int (dt), .ref ao, .ref aw, .ref an, .ref ab, .ref av])), (ao, .inl (E.2.1 1, 8, .inl (on))), (aw, .inl (E.2.1 1, 8, .inl (wr))), (an, .inl (E.2.1 1, 8, .inl (nd))), (ab, .inl (E.2.1 1, 8, .inl (br)))] (RtE2 (some (.int (if okN n nt then couK (ag nt rl w (nI (2 ^ rl - 1)) sp hm on nd br) (fun s => wrts rl hm on wr nd br (nI s) n) (2 ^ nt) else -1))) (fun (hf_ : Nat → Int64) (bg_ : Nat → Int64) => [(y0, .inr (4, [.ref a0, .ref yi, .ref yk, .ref l0, .ref t0, .ref yn, .ref yt, .int (nI se), .ref ys, .int (tn), .ref ym])), (l0, .inr (0, [.ref lh, .ref lb])), (lh, .inl (E.2.1 2, 8, .inr (.inl (hf_)))), (lb, .inl (E.2.1 2, 6, .inr (.inl (bg_)))), (a0, .inr (2, [.int (nI nt), .int (nI pp), .int (nI rl), .int (hm), .int (sp), .int (td), .int (dt), .ref ao, .ref aw, .ref an, .ref ab, .ref av])), (ao, .inl (E.2.1 1, 8, .inl (on))), (aw, .inl (E.2.1 1, 8, .inl (wr))), (an, .inl (E.2.1 1, 8, .inl (nd))), (ab, .inl (E.2.1 1, 8, .inl (br)))])) := by
  refine Ct.of (own := RX4) (nm := "could") (lv := [(0, .ref y0), (1, .int (n))]) (by decide) rfl rfl (Nat.le_of_ble_eq_true rfl) rfl ?_
  refine v_aload_n (pc := 0) 0 dX4_could_0 rfl rfl ?_
  refine gf_240 (pc := 1) 0 dX4_could_1 rfl rfl ?_
  refine v_iload_n (pc := 4) 1 dX4_could_4 rfl rfl ?_
  refine v_callV (pc := 5) (rest := []) [4] 4 lk_462 (c_X2_hasNote l E a0 ao aw an ab av nt pp rl hm sp td dt n) dX4_could_5 rfl rfl (Nat.le_of_ble_eq_true rfl) (by decide) rfl rfl rfl (by decide) rfl (Rt.len rfl) (Rt.go ?_)
  refine v_w (ws' := [(y0, .inr (4, [.ref a0, .ref yi, .ref yk, .ref l0, .ref t0, .ref yn, .ref yt, .int (nI se), .ref ys, .int (tn), .ref ym])), (l0, .inr (0, [.ref lh, .ref lb])), (lh, .inl (E.2.1 2, 8, .inr (.inl (hf)))), (lb, .inl (E.2.1 2, 6, .inr (.inl (bg)))), (a0, .inr (2, [.int (nI nt), .int (nI pp), .int (nI rl), .int (hm), .int (sp), .int (td), .int (dt), .ref ao, .ref aw, .ref an, .ref ab, .ref av])), (ao, .inl (E.2.1 1, 8, .inl (on))), (aw, .inl (E.2.1 1, 8, .inl (wr))), (an, .inl (E.2.1 1, 8, .inl (nd))), (ab, .inl (E.2.1 1, 8, .inl (br)))]) rfl ?_
  refine v_st (st' := [.int (if okN n nt then 1 else 0)]) rfl ?_
  refine v_ifB_ne (pc := 8) 13 dX4_could_8 (by decide) (fun c_8 => ?_) (fun c_8 => ?_)
  · skip
    refine v_aload_n (pc := 13) 0 dX4_could_13 rfl rfl ?_
    refine gf_243 (pc := 14) 0 dX4_could_14 rfl rfl ?_
    refine v_aload_n (pc := 17) 0 dX4_could_17 rfl rfl ?_
    refine gf_240 (pc := 18) 0 dX4_could_18 rfl rfl ?_
    refine v_callV (pc := 21) (rest := []) [1, 2, 3, 4, 5, 6, 7, 8] 1 lk_539 (c_X0_agreeingNow l E l0 lh lb a0 ao aw an ab av nt pp rl hm sp td dt on wr nd br hf bg w (by first | assumption | omega) (by first | assumption | omega) (by first | assumption | omega)) dX4_could_21 rfl rfl (Nat.le_of_ble_eq_true rfl) (by decide) rfl rfl rfl (by decide) rfl (RtE2.len (fun _ _ => rfl)) (RtE2.go (fun hf_21 bg_21 => ?_))
    refine v_w (ws' := [(y0, .inr (4, [.ref a0, .ref yi, .ref yk, .ref l0, .ref t0, .ref yn, .ref yt, .int (nI se), .ref ys, .int (tn), .ref ym])), (l0, .inr (0, [.ref lh, .ref lb])), (lh, .inl (E.2.1 2, 8, .inr (.inl (hf_21)))), (lb, .inl (E.2.1 2, 6, .inr (.inl (bg_21)))), (a0, .inr (2, [.int (nI nt), .int (nI pp), .int (nI rl), .int (hm), .int (sp), .int (td), .int (dt), .ref ao, .ref aw, .ref an, .ref ab, .ref av])), (ao, .inl (E.2.1 1, 8, .inl (on))), (aw, .inl (E.2.1 1, 8, .inl (wr))), (an, .inl (E.2.1 1, 8, .inl (nd))), (ab, .inl (E.2.1 1, 8, .inl (br)))]) rfl ?_
    refine v_st (st' := [.long (ag nt rl w (nI (2 ^ rl - 1)) sp hm on nd br)]) rfl ?_
    refine v_lstore_n (pc := 24) (lv' := [(2, .long (ag nt rl w (nI (2 ^ rl - 1)) sp hm on nd br)), (0, .ref y0), (1, .int (n))]) dX4_could_24 rfl (by decide) rfl ?_
    have h64 := p64 h_nt
    have h0p := p1 nt
    refine v_iconst (pc := 25) (v := 0) dX4_could_25 (by decide) ?_
    refine v_istore (pc := 26) (lv' := [(4, .int (0)), (2, .long (ag nt rl w (nI (2 ^ rl - 1)) sp hm on nd br)), (0, .ref y0), (1, .int (n))]) dX4_could_26 (by decide) rfl ?_
    refine v_iconst (pc := 28) (v := 0) dX4_could_28 (by decide) ?_
    refine v_istore (pc := 29) (lv' := [(5, .int (0)), (4, .int (0)), (2, .long (ag nt rl w (nI (2 ^ rl - 1)) sp hm on nd br)), (0, .ref y0), (1, .int (n))]) dX4_could_29 (by decide) rfl ?_
    have loop_31 : ∀ (D_31 : Nat) (i : Nat) (acc : Int32), 2 ^ nt - i < D_31 → (i ≤ 2 ^ nt) → (acc = couK (ag nt rl w (nI (2 ^ rl - 1)) sp hm on nd br) (fun s => wrts rl hm on wr nd br (nI s) n) i) → V l E RX4 cX4_could 6 (Option.some FieldType.int) "could" ({ frames := 4, cells := 0, slots := 0, locals := 90 }) [(y0, .inr (4, [.ref a0, .ref yi, .ref yk, .ref l0, .ref t0, .ref yn, .ref yt, .int (nI se), .ref ys, .int (tn), .ref ym])), (l0, .inr (0, [.ref lh, .ref lb])), (lh, .inl (E.2.1 2, 8, .inr (.inl (hf)))), (lb, .inl (E.2.1 2, 6, .inr (.inl (bg)))), (a0, .inr (2, [.int (nI nt), .int (nI pp), .int (nI rl), .int (hm), .int (sp), .int (td), .int (dt), .ref ao, .ref aw, .ref an, .ref ab, .ref av])), (ao, .inl (E.2.1 1, 8, .inl (on))), (aw, .inl (E.2.1 1, 8, .inl (wr))), (an, .inl (E.2.1 1, 8, .inl (nd))), (ab, .inl (E.2.1 1, 8, .inl (br)))] 0 0 (RtE2 (some (.int (if okN n nt then couK (ag nt rl w (nI (2 ^ rl - 1)) sp hm on nd br) (fun s => wrts rl hm on wr nd br (nI s) n) (2 ^ nt) else -1))) (fun (hf_ : Nat → Int64) (bg_ : Nat → Int64) => [(y0, .inr (4, [.ref a0, .ref yi, .ref yk, .ref l0, .ref t0, .ref yn, .ref yt, .int (nI se), .ref ys, .int (tn), .ref ym])), (l0, .inr (0, [.ref lh, .ref lb])), (lh, .inl (E.2.1 2, 8, .inr (.inl (hf_)))), (lb, .inl (E.2.1 2, 6, .inr (.inl (bg_)))), (a0, .inr (2, [.int (nI nt), .int (nI pp), .int (nI rl), .int (hm), .int (sp), .int (td), .int (dt), .ref ao, .ref aw, .ref an, .ref ab, .ref av])), (ao, .inl (E.2.1 1, 8, .inl (on))), (aw, .inl (E.2.1 1, 8, .inl (wr))), (an, .inl (E.2.1 1, 8, .inl (nd))), (ab, .inl (E.2.1 1, 8, .inl (br)))])) 0 0 31 [(5, .int (nI i)), (4, .int (acc)), (2, .long ((ag nt rl w (nI (2 ^ rl - 1)) sp hm on nd br))), (0, .ref y0), (1, .int (n))] [] [(y0, .inr (4, [.ref a0, .ref yi, .ref yk, .ref l0, .ref t0, .ref yn, .ref yt, .int (nI se), .ref ys, .int (tn), .ref ym])), (l0, .inr (0, [.ref lh, .ref lb])), (lh, .inl (E.2.1 2, 8, .inr (.inl (hf_21)))), (lb, .inl (E.2.1 2, 6, .inr (.inl (bg_21)))), (a0, .inr (2, [.int (nI nt), .int (nI pp), .int (nI rl), .int (hm), .int (sp), .int (td), .int (dt), .ref ao, .ref aw, .ref an, .ref ab, .ref av])), (ao, .inl (E.2.1 1, 8, .inl (on))), (aw, .inl (E.2.1 1, 8, .inl (wr))), (an, .inl (E.2.1 1, 8, .inl (nd))), (ab, .inl (E.2.1 1, 8, .inl (br)))] := by
      intro D_31
      induction D_31 with
      | zero => intro i acc h; exact absurd h (Nat.not_lt_zero _)
      | succ D_31 ih_31 =>
        intro i acc hmu_31 h_31_0 h_31_1
        refine v_iload (pc := 31) 0 dX4_could_31 rfl ?_
        refine v_aload_n (pc := 33) 3 dX4_could_33 rfl rfl ?_
        refine gf_240 (pc := 34) 0 dX4_could_34 rfl rfl ?_
        refine v_callV (pc := 37) (rest := [.int (nI i)]) [4] 4 lk_616 (c_X2_allNotes l E a0 ao aw an ab av nt pp rl hm sp td dt (by first | assumption | omega)) dX4_could_37 rfl rfl (Nat.le_of_ble_eq_true rfl) (by decide) rfl rfl rfl (by decide) rfl (Rt.len rfl) (Rt.go ?_)
        refine v_w (ws' := [(y0, .inr (4, [.ref a0, .ref yi, .ref yk, .ref l0, .ref t0, .ref yn, .ref yt, .int (nI se), .ref ys, .int (tn), .ref ym])), (l0, .inr (0, [.ref lh, .ref lb])), (lh, .inl (E.2.1 2, 8, .inr (.inl (hf_21)))), (lb, .inl (E.2.1 2, 6, .inr (.inl (bg_21)))), (a0, .inr (2, [.int (nI nt), .int (nI pp), .int (nI rl), .int (hm), .int (sp), .int (td), .int (dt), .ref ao, .ref aw, .ref an, .ref ab, .ref av])), (ao, .inl (E.2.1 1, 8, .inl (on))), (aw, .inl (E.2.1 1, 8, .inl (wr))), (an, .inl (E.2.1 1, 8, .inl (nd))), (ab, .inl (E.2.1 1, 8, .inl (br)))]) rfl ?_
        refine v_st (st' := [.int (nI (2 ^ nt - 1)), .int (nI i)]) rfl ?_
        refine v_cmpN_gt (pc := 40) (a := i) (b := 2 ^ nt - 1) 73 dX4_could_40 (by decide) (by omega) (by omega) (fun c_40 => ?_) (fun c_40 => ?_)
        · skip
          refine v_iload (pc := 73) 1 dX4_could_73 rfl ?_
          refine v_iret (pc := 75) dX4_could_75 rfl ⟨rfl, rfl⟩ (RtE2.i (hf_21) (bg_21) ?_ ?_)
          · skip
            obtain rfl : i = 2 ^ nt := by omega
            rw [h_31_1, if_pos c_8]
          · skip
            rfl
        · skip
          refine v_iload (pc := 43) 0 dX4_could_43 rfl ?_
          refine v_lload_n (pc := 45) 2 dX4_could_45 rfl rfl ?_
          refine v_callS (pc := 46) (rest := []) [] lk_574 (c_X4_isAmong l E (nI i) (ag nt rl w (nI (2 ^ rl - 1)) sp hm on nd br)) dX4_could_46 rfl rfl (Nat.le_of_ble_eq_true rfl) (by decide) (by decide) rfl (Rt.len rfl) (Rt.go ?_)
          refine v_w (ws' := [(y0, .inr (4, [.ref a0, .ref yi, .ref yk, .ref l0, .ref t0, .ref yn, .ref yt, .int (nI se), .ref ys, .int (tn), .ref ym])), (l0, .inr (0, [.ref lh, .ref lb])), (lh, .inl (E.2.1 2, 8, .inr (.inl (hf_21)))), (lb, .inl (E.2.1 2, 6, .inr (.inl (bg_21)))), (a0, .inr (2, [.int (nI nt), .int (nI pp), .int (nI rl), .int (hm), .int (sp), .int (td), .int (dt), .ref ao, .ref aw, .ref an, .ref ab, .ref av])), (ao, .inl (E.2.1 1, 8, .inl (on))), (aw, .inl (E.2.1 1, 8, .inl (wr))), (an, .inl (E.2.1 1, 8, .inl (nd))), (ab, .inl (E.2.1 1, 8, .inl (br)))]) rfl ?_
          refine v_st (st' := [.int (if isIn (nI i) (ag nt rl w (nI (2 ^ rl - 1)) sp hm on nd br) then 1 else 0)]) rfl ?_
          refine v_ifB_eq (pc := 49) 67 dX4_could_49 (by decide) (fun c_49 => ?_) (fun c_49 => ?_)
          · skip
            refine v_iinc (pc := 67) (v := nI (i + 1)) (lv' := [(5, .int (nI (i + 1))), (4, .int (acc)), (2, .long ((ag nt rl w (nI (2 ^ rl - 1)) sp hm on nd br))), (0, .ref y0), (1, .int (n))]) 0 dX4_could_67 rfl (nI_inc (i) 1) (by decide) rfl ?_
            refine v_goto (pc := 70) 31 dX4_could_70 (by decide) ?_
            refine v_lv (lv' := [(5, .int (nI (i + 1))), (4, .int (acc)), (2, .long ((ag nt rl w (nI (2 ^ rl - 1)) sp hm on nd br))), (0, .ref y0), (1, .int (n))]) [0, 1, 2, 3, 4] rfl ?_
            refine ih_31 (i + 1) acc (by omega) ?_ ?_
            · omega
            · simp only [couK]; rw [← h_31_1, if_neg c_49]
          · skip
            refine v_iload (pc := 52) 1 dX4_could_52 rfl ?_
            refine v_aload_n (pc := 54) 3 dX4_could_54 rfl rfl ?_
            refine gf_240 (pc := 55) 0 dX4_could_55 rfl rfl ?_
            refine v_iload (pc := 58) 0 dX4_could_58 rfl ?_
            refine v_iload_n (pc := 60) 4 dX4_could_60 rfl rfl ?_
            refine v_callV (pc := 61) (rest := [.int (acc)]) [4, 5, 6, 7, 8] 4 lk_621 (c_X2_writers l E a0 ao aw an ab av nt pp rl hm sp td dt on wr nd br (nI i) n (by first | assumption | omega)) dX4_could_61 rfl rfl (Nat.le_of_ble_eq_true rfl) (by decide) rfl rfl rfl (by decide) rfl (Rt.len rfl) (Rt.go ?_)
            refine v_w (ws' := [(y0, .inr (4, [.ref a0, .ref yi, .ref yk, .ref l0, .ref t0, .ref yn, .ref yt, .int (nI se), .ref ys, .int (tn), .ref ym])), (l0, .inr (0, [.ref lh, .ref lb])), (lh, .inl (E.2.1 2, 8, .inr (.inl (hf_21)))), (lb, .inl (E.2.1 2, 6, .inr (.inl (bg_21)))), (a0, .inr (2, [.int (nI nt), .int (nI pp), .int (nI rl), .int (hm), .int (sp), .int (td), .int (dt), .ref ao, .ref aw, .ref an, .ref ab, .ref av])), (ao, .inl (E.2.1 1, 8, .inl (on))), (aw, .inl (E.2.1 1, 8, .inl (wr))), (an, .inl (E.2.1 1, 8, .inl (nd))), (ab, .inl (E.2.1 1, 8, .inl (br)))]) rfl ?_
            refine v_st (st' := [.int (wrts rl hm on wr nd br (nI i) n), .int (acc)]) rfl ?_
            refine v_ior (pc := 64) dX4_could_64 ?_
            refine v_istore (pc := 65) (lv' := [(4, .int ((acc) ||| (wrts rl hm on wr nd br (nI i) n))), (5, .int (nI i)), (2, .long ((ag nt rl w (nI (2 ^ rl - 1)) sp hm on nd br))), (0, .ref y0), (1, .int (n))]) dX4_could_65 (by decide) rfl ?_
            refine v_iinc (pc := 67) (v := nI (i + 1)) (lv' := [(5, .int (nI (i + 1))), (4, .int ((acc) ||| (wrts rl hm on wr nd br (nI i) n))), (2, .long ((ag nt rl w (nI (2 ^ rl - 1)) sp hm on nd br))), (0, .ref y0), (1, .int (n))]) 1 dX4_could_67 rfl (nI_inc (i) 1) (by decide) rfl ?_
            refine v_goto (pc := 70) 31 dX4_could_70 (by decide) ?_
            refine v_lv (lv' := [(5, .int (nI (i + 1))), (4, .int ((acc) ||| (wrts rl hm on wr nd br (nI i) n))), (2, .long ((ag nt rl w (nI (2 ^ rl - 1)) sp hm on nd br))), (0, .ref y0), (1, .int (n))]) [0, 1, 2, 3, 4] rfl ?_
            refine ih_31 (i + 1) ((acc) ||| (wrts rl hm on wr nd br (nI i) n)) (by omega) ?_ ?_
            · omega
            · simp only [couK]; rw [← h_31_1, if_pos c_49]
    refine v_lv (lv' := [(5, .int (nI 0)), (4, .int (0)), (2, .long ((ag nt rl w (nI (2 ^ rl - 1)) sp hm on nd br))), (0, .ref y0), (1, .int (n))]) [0, 1, 2, 3, 4] rfl ?_
    refine loop_31 ((2 ^ nt - 0) + 1) 0 0 (Nat.lt_succ_self _) ?_ ?_
    · omega
    · rfl
  · skip
    refine v_iconst (pc := 11) (v := -1) dX4_could_11 (by decide) ?_
    refine v_iret (pc := 12) dX4_could_12 rfl ⟨rfl, rfl⟩ (RtE2.i (hf) (bg) ?_ ?_)
    · skip
      first | simp only [if_neg c_8] | rfl
    · skip
      first | simp only [if_neg c_8] | rfl
theorem c_X4_fewest (l : Launch) (E : VE) (y0 : Nat) (yi : Nat) (yk : Nat) (t0 : Nat) (yn : Nat) (yt : Nat) (ys : Nat) (ym : Nat) (se : Nat) (tn : Int32) (l0 : Nat) (lh : Nat) (lb : Nat) (a0 : Nat) (ao : Nat) (aw : Nat) (an : Nat) (ab : Nat) (av : Nat) (nt : Nat) (pp : Nat) (rl : Nat) (hm : Int32) (sp : Int32) (td : Int32) (dt : Int32) (on : Nat → Int32) (wr : Nat → Int32) (nd : Nat → Int32) (br : Nat → Int32) (hf : Nat → Int64) (bg : Nat → Int64) (n : Int32) (wh : Int32) (P : Prop) (dP : Decidable P) (w : Nat → Nat) (h_rl : rl ≤ 8) (h_nt : nt ≤ 6) (h_wr : ∀ k, k < rl → wr k = nI (w k) ∧ w k < 6) (h_pp : pp ≤ 4) : Ct l E yX4_fewest cX4_fewest 8 (Option.some FieldType.int) 3 69 0 0 [.ref y0, .int (n), .int (if P then 1 else 0), .int (wh)] [(y0, .inr (4, [.ref a0, .ref yi, .ref yk, .ref l0, .ref t0, .ref yn, .ref yt, .int (nI se), .ref ys, .int (tn), .ref ym])), (l0, .inr (0, [.ref lh, .ref lb])), (lh, .inl (E.2.1 2, 8, .inr (.inl (hf)))), (lb, .inl (E.2.1 2, 6, .inr (.inl (bg)))), (a0, .inr (2, [.int (nI nt), .int (nI pp), .int (nI rl), .int (hm), .int (sp), .int (td), .int (dt), .ref ao, .ref aw, .ref an, .ref ab, .ref av])), (ao, .inl (E.2.1 1, 8, .inl (on))), (aw, .inl (E.2.1 1, 8, .inl (wr))), (an, .inl (E.2.1 1, 8, .inl (nd))), (ab, .inl (E.2.1 1, 8, .inl (br)))] (RtE2 (some (.int (if okN n nt then (if wh = 0 ∨ wh = 1 then (if wh = 0 then szF (fewK (if ¬ P then HVj n.toNatClampNeg ^^^ -1 else HVj n.toNatClampNeg) hm (fun s => (ag nt rl w (nI (2 ^ rl - 1)) (sp) (hm ||| nI s) on nd br)) (2 ^ pp)) else fewK (if ¬ P then HVj n.toNatClampNeg ^^^ -1 else HVj n.toNatClampNeg) hm (fun s => (ag nt rl w (nI (2 ^ rl - 1)) (sp) (hm ||| nI s) on nd br)) (2 ^ pp)) else -1) else -1))) (fun (hf_ : Nat → Int64) (bg_ : Nat → Int64) => [(y0, .inr (4, [.ref a0, .ref yi, .ref yk, .ref l0, .ref t0, .ref yn, .ref yt, .int (nI se), .ref ys, .int (tn), .ref ym])), (l0, .inr (0, [.ref lh, .ref lb])), (lh, .inl (E.2.1 2, 8, .inr (.inl (hf_)))), (lb, .inl (E.2.1 2, 6, .inr (.inl (bg_)))), (a0, .inr (2, [.int (nI nt), .int (nI pp), .int (nI rl), .int (hm), .int (sp), .int (td), .int (dt), .ref ao, .ref aw, .ref an, .ref ab, .ref av])), (ao, .inl (E.2.1 1, 8, .inl (on))), (aw, .inl (E.2.1 1, 8, .inl (wr))), (an, .inl (E.2.1 1, 8, .inl (nd))), (ab, .inl (E.2.1 1, 8, .inl (br)))])) := by
  refine Ct.of (own := RX4) (nm := "fewest") (lv := [(0, .ref y0), (1, .int (n)), (2, .int (if P then 1 else 0)), (3, .int (wh))]) (by decide) rfl rfl (Nat.le_of_ble_eq_true rfl) rfl ?_
  refine v_aload_n (pc := 0) 0 dX4_fewest_0 rfl rfl ?_
  refine gf_240 (pc := 1) 0 dX4_fewest_1 rfl rfl ?_
  refine v_iload_n (pc := 4) 1 dX4_fewest_4 rfl rfl ?_
  refine v_callV (pc := 5) (rest := []) [4] 4 lk_462 (c_X2_hasNote l E a0 ao aw an ab av nt pp rl hm sp td dt n) dX4_fewest_5 rfl rfl (Nat.le_of_ble_eq_true rfl) (by decide) rfl rfl rfl (by decide) rfl (Rt.len rfl) (Rt.go ?_)
  refine v_w (ws' := [(y0, .inr (4, [.ref a0, .ref yi, .ref yk, .ref l0, .ref t0, .ref yn, .ref yt, .int (nI se), .ref ys, .int (tn), .ref ym])), (l0, .inr (0, [.ref lh, .ref lb])), (lh, .inl (E.2.1 2, 8, .inr (.inl (hf)))), (lb, .inl (E.2.1 2, 6, .inr (.inl (bg)))), (a0, .inr (2, [.int (nI nt), .int (nI pp), .int (nI rl), .int (hm), .int (sp), .int (td), .int (dt), .ref ao, .ref aw, .ref an, .ref ab, .ref av])), (ao, .inl (E.2.1 1, 8, .inl (on))), (aw, .inl (E.2.1 1, 8, .inl (wr))), (an, .inl (E.2.1 1, 8, .inl (nd))), (ab, .inl (E.2.1 1, 8, .inl (br)))]) rfl ?_
  refine v_st (st' := [.int (if okN n nt then 1 else 0)]) rfl ?_
  refine v_ifB_eq (pc := 8) 18 dX4_fewest_8 (by decide) (fun c_8 => ?_) (fun c_8 => ?_)
  · skip
    refine v_iconst (pc := 18) (v := -1) dX4_fewest_18 (by decide) ?_
    refine v_iret (pc := 19) dX4_fewest_19 rfl ⟨rfl, rfl⟩ (RtE2.i (hf) (bg) ?_ ?_)
    · skip
      first | simp only [if_neg c_8] | rfl
    · skip
      first | simp only [if_neg c_8] | rfl
  · skip
    refine v_iload_n (pc := 11) 3 dX4_fewest_11 rfl rfl ?_
    refine v_callS (pc := 12) (rest := []) [] lk_531 (c_X4_isYesNo l E wh) dX4_fewest_12 rfl rfl (Nat.le_of_ble_eq_true rfl) (by decide) (by decide) rfl (Rt.len rfl) (Rt.go ?_)
    refine v_w (ws' := [(y0, .inr (4, [.ref a0, .ref yi, .ref yk, .ref l0, .ref t0, .ref yn, .ref yt, .int (nI se), .ref ys, .int (tn), .ref ym])), (l0, .inr (0, [.ref lh, .ref lb])), (lh, .inl (E.2.1 2, 8, .inr (.inl (hf)))), (lb, .inl (E.2.1 2, 6, .inr (.inl (bg)))), (a0, .inr (2, [.int (nI nt), .int (nI pp), .int (nI rl), .int (hm), .int (sp), .int (td), .int (dt), .ref ao, .ref aw, .ref an, .ref ab, .ref av])), (ao, .inl (E.2.1 1, 8, .inl (on))), (aw, .inl (E.2.1 1, 8, .inl (wr))), (an, .inl (E.2.1 1, 8, .inl (nd))), (ab, .inl (E.2.1 1, 8, .inl (br)))]) rfl ?_
    refine v_st (st' := [.int (if wh = 0 ∨ wh = 1 then 1 else 0)]) rfl ?_
    refine v_ifB_ne (pc := 15) 20 dX4_fewest_15 (by decide) (fun c_15 => ?_) (fun c_15 => ?_)
    · skip
      have h16 := p16 h_pp
      have h0p := p1 pp
      obtain ⟨j, hj, rfl⟩ := okN_ex c_8 (by omega)
      have hjc : (nI j).toNatClampNeg = j := nI_clamp (by omega)
      refine v_iload_n (pc := 20) 2 dX4_fewest_20 rfl rfl ?_
      suffices J_21 : V l E RX4 cX4_fewest 8 (Option.some FieldType.int) "fewest" ({ frames := 3, cells := 0, slots := 0, locals := 69 }) [(y0, .inr (4, [.ref a0, .ref yi, .ref yk, .ref l0, .ref t0, .ref yn, .ref yt, .int (nI se), .ref ys, .int (tn), .ref ym])), (l0, .inr (0, [.ref lh, .ref lb])), (lh, .inl (E.2.1 2, 8, .inr (.inl (hf)))), (lb, .inl (E.2.1 2, 6, .inr (.inl (bg)))), (a0, .inr (2, [.int (nI nt), .int (nI pp), .int (nI rl), .int (hm), .int (sp), .int (td), .int (dt), .ref ao, .ref aw, .ref an, .ref ab, .ref av])), (ao, .inl (E.2.1 1, 8, .inl (on))), (aw, .inl (E.2.1 1, 8, .inl (wr))), (an, .inl (E.2.1 1, 8, .inl (nd))), (ab, .inl (E.2.1 1, 8, .inl (br)))] 0 0 (RtE2 (some (.int (if okN (nI j) nt then (if wh = 0 ∨ wh = 1 then (if wh = 0 then szF (fewK (if ¬ P then HVj (nI j).toNatClampNeg ^^^ -1 else HVj (nI j).toNatClampNeg) hm (fun s => (ag nt rl w (nI (2 ^ rl - 1)) (sp) (hm ||| nI s) on nd br)) (2 ^ pp)) else fewK (if ¬ P then HVj (nI j).toNatClampNeg ^^^ -1 else HVj (nI j).toNatClampNeg) hm (fun s => (ag nt rl w (nI (2 ^ rl - 1)) (sp) (hm ||| nI s) on nd br)) (2 ^ pp)) else -1) else -1))) (fun (hf_ : Nat → Int64) (bg_ : Nat → Int64) => [(y0, .inr (4, [.ref a0, .ref yi, .ref yk, .ref l0, .ref t0, .ref yn, .ref yt, .int (nI se), .ref ys, .int (tn), .ref ym])), (l0, .inr (0, [.ref lh, .ref lb])), (lh, .inl (E.2.1 2, 8, .inr (.inl (hf_)))), (lb, .inl (E.2.1 2, 6, .inr (.inl (bg_)))), (a0, .inr (2, [.int (nI nt), .int (nI pp), .int (nI rl), .int (hm), .int (sp), .int (td), .int (dt), .ref ao, .ref aw, .ref an, .ref ab, .ref av])), (ao, .inl (E.2.1 1, 8, .inl (on))), (aw, .inl (E.2.1 1, 8, .inl (wr))), (an, .inl (E.2.1 1, 8, .inl (nd))), (ab, .inl (E.2.1 1, 8, .inl (br)))])) 0 0 41 [(0, .ref y0), (1, .int ((nI j))), (2, .int (if P then 1 else 0)), (3, .int (wh))] [.long (if ¬ P then (HVj (j)) ^^^ ((-1)) else HVj (j))] [(y0, .inr (4, [.ref a0, .ref yi, .ref yk, .ref l0, .ref t0, .ref yn, .ref yt, .int (nI se), .ref ys, .int (tn), .ref ym])), (l0, .inr (0, [.ref lh, .ref lb])), (lh, .inl (E.2.1 2, 8, .inr (.inl (hf)))), (lb, .inl (E.2.1 2, 6, .inr (.inl (bg)))), (a0, .inr (2, [.int (nI nt), .int (nI pp), .int (nI rl), .int (hm), .int (sp), .int (td), .int (dt), .ref ao, .ref aw, .ref an, .ref ab, .ref av])), (ao, .inl (E.2.1 1, 8, .inl (on))), (aw, .inl (E.2.1 1, 8, .inl (wr))), (an, .inl (E.2.1 1, 8, .inl (nd))), (ab, .inl (E.2.1 1, 8, .inl (br)))] by
        refine v_ifB_eq (pc := 21) 32 dX4_fewest_21 (by decide) (fun c_21 => ?_) (fun c_21 => ?_)
        · skip
          refine v_gsHV (pc := 32) dX4_fewest_32 tb_584 ?_
          refine v_iload_n (pc := 35) 1 dX4_fewest_35 rfl rfl ?_
          refine v_tlHVN (pc := 36) (j) dX4_fewest_36 rfl (by omega) ?_
          refine v_ldc2 (pc := 37) dX4_fewest_37 tb_585 ?_
          refine v_lxor (pc := 40) dX4_fewest_40 ?_
          refine v_st ?_ J_21
          rw [if_pos (show ¬ P from c_21)]
        · skip
          refine v_gsHV (pc := 24) dX4_fewest_24 tb_584 ?_
          refine v_iload_n (pc := 27) 1 dX4_fewest_27 rfl rfl ?_
          refine v_tlHVN (pc := 28) (j) dX4_fewest_28 rfl (by omega) ?_
          refine v_goto (pc := 29) 41 dX4_fewest_29 (by decide) ?_
          refine v_st ?_ J_21
          rw [if_neg (show ¬ (¬ P) from (by first | exact c_21 | omega | exact fun q => q c_21))]
      refine v_lstore (pc := 41) (lv' := [(4, .long (if ¬ P then (HVj (j)) ^^^ ((-1)) else HVj (j))), (0, .ref y0), (1, .int ((nI j))), (2, .int (if P then 1 else 0)), (3, .int (wh))]) dX4_fewest_41 (by decide) rfl ?_
      generalize hW : (if ¬ P then HVj j ^^^ -1 else HVj j) = W
      refine v_bipush (pc := 43) (v := -4) dX4_fewest_43 (by decide) ?_
      refine v_istore (pc := 45) (lv' := [(6, .int (-4)), (4, .long (W)), (0, .ref y0), (1, .int ((nI j))), (2, .int (if P then 1 else 0)), (3, .int (wh))]) dX4_fewest_45 (by decide) rfl ?_
      refine v_iconst (pc := 47) (v := 0) dX4_fewest_47 (by decide) ?_
      refine v_istore (pc := 48) (lv' := [(7, .int (0)), (6, .int (-4)), (4, .long (W)), (0, .ref y0), (1, .int ((nI j))), (2, .int (if P then 1 else 0)), (3, .int (wh))]) dX4_fewest_48 (by decide) rfl ?_
      have loop_50 : ∀ (D_50 : Nat) (i : Nat) (b : Int32) (hv : Nat → Int64) (gb : Nat → Int64), 2 ^ pp - i < D_50 → (i ≤ 2 ^ pp) → (b = fewK W hm (fun s => (ag nt rl w (nI (2 ^ rl - 1)) (sp) (hm ||| nI s) on nd br)) i) → V l E RX4 cX4_fewest 8 (Option.some FieldType.int) "fewest" ({ frames := 3, cells := 0, slots := 0, locals := 69 }) [(y0, .inr (4, [.ref a0, .ref yi, .ref yk, .ref l0, .ref t0, .ref yn, .ref yt, .int (nI se), .ref ys, .int (tn), .ref ym])), (l0, .inr (0, [.ref lh, .ref lb])), (lh, .inl (E.2.1 2, 8, .inr (.inl (hf)))), (lb, .inl (E.2.1 2, 6, .inr (.inl (bg)))), (a0, .inr (2, [.int (nI nt), .int (nI pp), .int (nI rl), .int (hm), .int (sp), .int (td), .int (dt), .ref ao, .ref aw, .ref an, .ref ab, .ref av])), (ao, .inl (E.2.1 1, 8, .inl (on))), (aw, .inl (E.2.1 1, 8, .inl (wr))), (an, .inl (E.2.1 1, 8, .inl (nd))), (ab, .inl (E.2.1 1, 8, .inl (br)))] 0 0 (RtE2 (some (.int (if okN (nI j) nt then (if wh = 0 ∨ wh = 1 then (if wh = 0 then szF (fewK (if ¬ P then HVj (nI j).toNatClampNeg ^^^ -1 else HVj (nI j).toNatClampNeg) hm (fun s => (ag nt rl w (nI (2 ^ rl - 1)) (sp) (hm ||| nI s) on nd br)) (2 ^ pp)) else fewK (if ¬ P then HVj (nI j).toNatClampNeg ^^^ -1 else HVj (nI j).toNatClampNeg) hm (fun s => (ag nt rl w (nI (2 ^ rl - 1)) (sp) (hm ||| nI s) on nd br)) (2 ^ pp)) else -1) else -1))) (fun (hf_ : Nat → Int64) (bg_ : Nat → Int64) => [(y0, .inr (4, [.ref a0, .ref yi, .ref yk, .ref l0, .ref t0, .ref yn, .ref yt, .int (nI se), .ref ys, .int (tn), .ref ym])), (l0, .inr (0, [.ref lh, .ref lb])), (lh, .inl (E.2.1 2, 8, .inr (.inl (hf_)))), (lb, .inl (E.2.1 2, 6, .inr (.inl (bg_)))), (a0, .inr (2, [.int (nI nt), .int (nI pp), .int (nI rl), .int (hm), .int (sp), .int (td), .int (dt), .ref ao, .ref aw, .ref an, .ref ab, .ref av])), (ao, .inl (E.2.1 1, 8, .inl (on))), (aw, .inl (E.2.1 1, 8, .inl (wr))), (an, .inl (E.2.1 1, 8, .inl (nd))), (ab, .inl (E.2.1 1, 8, .inl (br)))])) 0 0 50 [(7, .int (nI i)), (6, .int (b)), (4, .long (W)), (0, .ref y0), (1, .int (nI j)), (2, .int (if P then 1 else 0)), (3, .int (wh))] [] [(y0, .inr (4, [.ref a0, .ref yi, .ref yk, .ref l0, .ref t0, .ref yn, .ref yt, .int (nI se), .ref ys, .int (tn), .ref ym])), (l0, .inr (0, [.ref lh, .ref lb])), (lh, .inl (E.2.1 2, 8, .inr (.inl (hv)))), (lb, .inl (E.2.1 2, 6, .inr (.inl (gb)))), (a0, .inr (2, [.int (nI nt), .int (nI pp), .int (nI rl), .int (hm), .int (sp), .int (td), .int (dt), .ref ao, .ref aw, .ref an, .ref ab, .ref av])), (ao, .inl (E.2.1 1, 8, .inl (on))), (aw, .inl (E.2.1 1, 8, .inl (wr))), (an, .inl (E.2.1 1, 8, .inl (nd))), (ab, .inl (E.2.1 1, 8, .inl (br)))] := by
        intro D_50
        induction D_50 with
        | zero => intro i b hv gb h; exact absurd h (Nat.not_lt_zero _)
        | succ D_50 ih_50 =>
          intro i b hv gb hmu_50 h_50_0 h_50_1
          refine v_iload (pc := 50) 0 dX4_fewest_50 rfl ?_
          refine v_iconst (pc := 52) (v := 1) dX4_fewest_52 (by decide) ?_
          refine v_aload_n (pc := 53) 3 dX4_fewest_53 rfl rfl ?_
          refine gf_240 (pc := 54) 0 dX4_fewest_54 rfl rfl ?_
          refine gf_93 (pc := 57) 4 dX4_fewest_57 rfl rfl ?_
          refine v_ishl (pc := 60) dX4_fewest_60 ?_
          refine v_st (st' := [.int (nI (2 ^ pp)), .int (nI i)]) (by rw [pw31 pp (by omega)]) ?_
          refine v_cmpN_ge (pc := 61) (a := i) (b := 2 ^ pp) 151 dX4_fewest_61 (by decide) (by omega) (by omega) (fun c_61 => ?_) (fun c_61 => ?_)
          · skip
            refine v_iload_n (pc := 151) 6 dX4_fewest_151 rfl rfl ?_
            refine v_if_ne (pc := 152) 163 dX4_fewest_152 (by decide) (fun c_152 => ?_) (fun c_152 => ?_)
            · skip
              refine v_iload (pc := 163) 1 dX4_fewest_163 rfl ?_
              refine v_iret (pc := 165) dX4_fewest_165 rfl ⟨rfl, rfl⟩ (RtE2.i (hv) (gb) ?_ ?_)
              · skip
                obtain rfl : i = 2 ^ pp := by omega
                rw [h_50_1, if_pos c_8, if_pos c_15, hjc, hW, if_neg c_152]
              · skip
                rfl
            · skip
              refine v_iload (pc := 155) 1 dX4_fewest_155 rfl ?_
              refine v_callS (pc := 157) (rest := []) [] lk_643 (c_X4_sizeOf l E b) dX4_fewest_157 rfl rfl (Nat.le_of_ble_eq_true rfl) (by decide) (by decide) rfl (Rt.len rfl) (Rt.go ?_)
              refine v_w (ws' := [(y0, .inr (4, [.ref a0, .ref yi, .ref yk, .ref l0, .ref t0, .ref yn, .ref yt, .int (nI se), .ref ys, .int (tn), .ref ym])), (l0, .inr (0, [.ref lh, .ref lb])), (lh, .inl (E.2.1 2, 8, .inr (.inl (hv)))), (lb, .inl (E.2.1 2, 6, .inr (.inl (gb)))), (a0, .inr (2, [.int (nI nt), .int (nI pp), .int (nI rl), .int (hm), .int (sp), .int (td), .int (dt), .ref ao, .ref aw, .ref an, .ref ab, .ref av])), (ao, .inl (E.2.1 1, 8, .inl (on))), (aw, .inl (E.2.1 1, 8, .inl (wr))), (an, .inl (E.2.1 1, 8, .inl (nd))), (ab, .inl (E.2.1 1, 8, .inl (br)))]) rfl ?_
              refine v_st (st' := [.int (if b = -4 then -4 else bci b)]) rfl ?_
              refine v_goto (pc := 160) 165 dX4_fewest_160 (by decide) ?_
              refine v_iret (pc := 165) dX4_fewest_165 rfl ⟨rfl, rfl⟩ (RtE2.i (hv) (gb) ?_ ?_)
              · skip
                obtain rfl : i = 2 ^ pp := by omega
                rw [h_50_1, if_pos c_8, if_pos c_15, hjc, hW, if_pos c_152, szF]
              · skip
                rfl
          · skip
            refine v_iload (pc := 64) 0 dX4_fewest_64 rfl ?_
            refine v_aload_n (pc := 66) 3 dX4_fewest_66 rfl rfl ?_
            refine gf_240 (pc := 67) 0 dX4_fewest_67 rfl rfl ?_
            refine gf_100 (pc := 70) 4 dX4_fewest_70 rfl rfl ?_
            refine v_iand (pc := 73) dX4_fewest_73 ?_
            refine v_if_ne (pc := 74) 145 dX4_fewest_74 (by decide) (fun c_74 => ?_) (fun c_74 => ?_)
            · skip
              refine v_iinc (pc := 145) (v := nI (i + 1)) (lv' := [(7, .int (nI (i + 1))), (6, .int (b)), (4, .long (W)), (0, .ref y0), (1, .int (nI j)), (2, .int (if P then 1 else 0)), (3, .int (wh))]) 0 dX4_fewest_145 rfl (nI_inc (i) 1) (by decide) rfl ?_
              refine v_goto (pc := 148) 50 dX4_fewest_148 (by decide) ?_
              refine v_lv (lv' := [(7, .int (nI (i + 1))), (6, .int (b)), (4, .long (W)), (0, .ref y0), (1, .int (nI j)), (2, .int (if P then 1 else 0)), (3, .int (wh))]) [0, 1, 2, 3, 4, 5, 6] rfl ?_
              refine ih_50 (i + 1) b hv gb (by omega) ?_ ?_
              · omega
              · simp only [fewK]; rw [← h_50_1, if_neg (fun q => c_74 q.1)]
            · skip
              refine v_iload (pc := 77) 0 dX4_fewest_77 rfl ?_
              refine v_iload (pc := 79) 1 dX4_fewest_79 rfl ?_
              refine v_callS (pc := 81) (rest := []) [] lk_633 (c_X4_isFewer l E (nI i) b) dX4_fewest_81 rfl rfl (Nat.le_of_ble_eq_true rfl) (by decide) (by decide) rfl (Rt.len rfl) (Rt.go ?_)
              refine v_w (ws' := [(y0, .inr (4, [.ref a0, .ref yi, .ref yk, .ref l0, .ref t0, .ref yn, .ref yt, .int (nI se), .ref ys, .int (tn), .ref ym])), (l0, .inr (0, [.ref lh, .ref lb])), (lh, .inl (E.2.1 2, 8, .inr (.inl (hv)))), (lb, .inl (E.2.1 2, 6, .inr (.inl (gb)))), (a0, .inr (2, [.int (nI nt), .int (nI pp), .int (nI rl), .int (hm), .int (sp), .int (td), .int (dt), .ref ao, .ref aw, .ref an, .ref ab, .ref av])), (ao, .inl (E.2.1 1, 8, .inl (on))), (aw, .inl (E.2.1 1, 8, .inl (wr))), (an, .inl (E.2.1 1, 8, .inl (nd))), (ab, .inl (E.2.1 1, 8, .inl (br)))]) rfl ?_
              refine v_st (st' := [.int (if fewP (nI i) b then 1 else 0)]) rfl ?_
              refine v_ifB_eq (pc := 84) 145 dX4_fewest_84 (by decide) (fun c_84 => ?_) (fun c_84 => ?_)
              · skip
                refine v_iinc (pc := 145) (v := nI (i + 1)) (lv' := [(7, .int (nI (i + 1))), (6, .int (b)), (4, .long (W)), (0, .ref y0), (1, .int (nI j)), (2, .int (if P then 1 else 0)), (3, .int (wh))]) 0 dX4_fewest_145 rfl (nI_inc (i) 1) (by decide) rfl ?_
                refine v_goto (pc := 148) 50 dX4_fewest_148 (by decide) ?_
                refine v_lv (lv' := [(7, .int (nI (i + 1))), (6, .int (b)), (4, .long (W)), (0, .ref y0), (1, .int (nI j)), (2, .int (if P then 1 else 0)), (3, .int (wh))]) [0, 1, 2, 3, 4, 5, 6] rfl ?_
                refine ih_50 (i + 1) b hv gb (by omega) ?_ ?_
                · omega
                · simp only [fewK]; rw [← h_50_1, if_neg (fun q => c_84 q.2.1)]
              · skip
                refine v_aload_n (pc := 87) 3 dX4_fewest_87 rfl rfl ?_
                refine gf_243 (pc := 88) 0 dX4_fewest_88 rfl rfl ?_
                refine v_aload_n (pc := 91) 3 dX4_fewest_91 rfl rfl ?_
                refine gf_240 (pc := 92) 0 dX4_fewest_92 rfl rfl ?_
                refine v_aload_n (pc := 95) 3 dX4_fewest_95 rfl rfl ?_
                refine gf_240 (pc := 96) 0 dX4_fewest_96 rfl rfl ?_
                refine gf_100 (pc := 99) 4 dX4_fewest_99 rfl rfl ?_
                refine v_iload (pc := 102) 0 dX4_fewest_102 rfl ?_
                refine v_ior (pc := 104) dX4_fewest_104 ?_
                refine v_callV (pc := 105) (rest := []) [1, 2, 4, 5, 7, 8] 1 lk_594 (c_X0_open l E l0 lh lb a0 ao aw an ab av nt pp rl hm sp td dt on nd br ((hm) ||| (nI i)) hv (by first | assumption | omega)) dX4_fewest_105 rfl rfl (Nat.le_of_ble_eq_true rfl) (by decide) rfl rfl rfl (by decide) rfl (Rt.len rfl) (Rt.go ?_)
                refine v_w (ws' := [(y0, .inr (4, [.ref a0, .ref yi, .ref yk, .ref l0, .ref t0, .ref yn, .ref yt, .int (nI se), .ref ys, .int (tn), .ref ym])), (l0, .inr (0, [.ref lh, .ref lb])), (lh, .inl (E.2.1 2, 8, .inr (.inl (openF ((hm) ||| (nI i)) on nd br hv rl)))), (lb, .inl (E.2.1 2, 6, .inr (.inl (gb)))), (a0, .inr (2, [.int (nI nt), .int (nI pp), .int (nI rl), .int (hm), .int (sp), .int (td), .int (dt), .ref ao, .ref aw, .ref an, .ref ab, .ref av])), (ao, .inl (E.2.1 1, 8, .inl (on))), (aw, .inl (E.2.1 1, 8, .inl (wr))), (an, .inl (E.2.1 1, 8, .inl (nd))), (ab, .inl (E.2.1 1, 8, .inl (br)))]) rfl ?_
                refine v_st (st' := []) rfl ?_
                refine v_aload_n (pc := 108) 3 dX4_fewest_108 rfl rfl ?_
                refine gf_243 (pc := 109) 0 dX4_fewest_109 rfl rfl ?_
                refine v_aload_n (pc := 112) 3 dX4_fewest_112 rfl rfl ?_
                refine gf_240 (pc := 113) 0 dX4_fewest_113 rfl rfl ?_
                refine v_aload_n (pc := 116) 3 dX4_fewest_116 rfl rfl ?_
                refine gf_240 (pc := 117) 0 dX4_fewest_117 rfl rfl ?_
                refine v_callV (pc := 120) (rest := [.ref a0, .ref l0]) [4] 4 lk_642 (c_X2_allRules l E a0 ao aw an ab av nt pp rl hm sp td dt (by first | assumption | omega)) dX4_fewest_120 rfl rfl (Nat.le_of_ble_eq_true rfl) (by decide) rfl rfl rfl (by decide) rfl (Rt.len rfl) (Rt.go ?_)
                refine v_w (ws' := [(y0, .inr (4, [.ref a0, .ref yi, .ref yk, .ref l0, .ref t0, .ref yn, .ref yt, .int (nI se), .ref ys, .int (tn), .ref ym])), (l0, .inr (0, [.ref lh, .ref lb])), (lh, .inl (E.2.1 2, 8, .inr (.inl (openF ((hm) ||| (nI i)) on nd br hv rl)))), (lb, .inl (E.2.1 2, 6, .inr (.inl (gb)))), (a0, .inr (2, [.int (nI nt), .int (nI pp), .int (nI rl), .int (hm), .int (sp), .int (td), .int (dt), .ref ao, .ref aw, .ref an, .ref ab, .ref av])), (ao, .inl (E.2.1 1, 8, .inl (on))), (aw, .inl (E.2.1 1, 8, .inl (wr))), (an, .inl (E.2.1 1, 8, .inl (nd))), (ab, .inl (E.2.1 1, 8, .inl (br)))]) rfl ?_
                refine v_st (st' := [.int (nI (2 ^ rl - 1)), .ref a0, .ref l0]) rfl ?_
                refine v_aload_n (pc := 123) 3 dX4_fewest_123 rfl rfl ?_
                refine gf_240 (pc := 124) 0 dX4_fewest_124 rfl rfl ?_
                refine gf_104 (pc := 127) 4 dX4_fewest_127 rfl rfl ?_
                refine v_callV (pc := 130) (rest := []) [1, 2, 3, 4, 6] 1 lk_595 (c_X0_agreeing l E l0 lh lb a0 ao aw an ab av nt pp rl hm sp td dt on wr nd br (nI (2 ^ rl - 1)) sp (hm ||| nI i) (openF ((hm) ||| (nI i)) on nd br hv rl) gb w (by first | assumption | omega) (by first | assumption | omega) (by first | assumption | omega) open_ho) dX4_fewest_130 rfl rfl (Nat.le_of_ble_eq_true rfl) (by decide) rfl rfl rfl (by decide) rfl (RtE1.len (fun _ => rfl)) (RtE1.go (fun bg_130 => ?_))
                refine v_w (ws' := [(y0, .inr (4, [.ref a0, .ref yi, .ref yk, .ref l0, .ref t0, .ref yn, .ref yt, .int (nI se), .ref ys, .int (tn), .ref ym])), (l0, .inr (0, [.ref lh, .ref lb])), (lh, .inl (E.2.1 2, 8, .inr (.inl ((openF ((hm) ||| (nI i)) on nd br hv rl))))), (lb, .inl (E.2.1 2, 6, .inr (.inl (bg_130)))), (a0, .inr (2, [.int (nI nt), .int (nI pp), .int (nI rl), .int (hm), .int (sp), .int (td), .int (dt), .ref ao, .ref aw, .ref an, .ref ab, .ref av])), (ao, .inl (E.2.1 1, 8, .inl (on))), (aw, .inl (E.2.1 1, 8, .inl (wr))), (an, .inl (E.2.1 1, 8, .inl (nd))), (ab, .inl (E.2.1 1, 8, .inl (br)))]) rfl ?_
                refine v_st (st' := [.long (ag nt rl w (nI (2 ^ rl - 1)) sp (hm ||| nI i) on nd br)]) rfl ?_
                refine v_lload (pc := 133) 2 dX4_fewest_133 rfl ?_
                refine v_land (pc := 135) dX4_fewest_135 ?_
                refine v_lconst (pc := 136) (v := 0) dX4_fewest_136 (by decide) ?_
                refine v_lcmp (pc := 137) dX4_fewest_137 ?_
                refine v_lc_eq (pc := 138) 145 dX4_fewest_138 (by decide) (fun c_138 => ?_) (fun c_138 => ?_)
                · skip
                  refine v_iinc (pc := 145) (v := nI (i + 1)) (lv' := [(7, .int (nI (i + 1))), (6, .int (b)), (4, .long (W)), (0, .ref y0), (1, .int (nI j)), (2, .int (if P then 1 else 0)), (3, .int (wh))]) 0 dX4_fewest_145 rfl (nI_inc (i) 1) (by decide) rfl ?_
                  refine v_goto (pc := 148) 50 dX4_fewest_148 (by decide) ?_
                  refine v_lv (lv' := [(7, .int (nI (i + 1))), (6, .int (b)), (4, .long (W)), (0, .ref y0), (1, .int (nI j)), (2, .int (if P then 1 else 0)), (3, .int (wh))]) [0, 1, 2, 3, 4, 5, 6] rfl ?_
                  refine ih_50 (i + 1) b (openF ((hm) ||| (nI i)) on nd br hv rl) bg_130 (by omega) ?_ ?_
                  · omega
                  · simp only [fewK]; rw [← h_50_1, if_neg (fun q => q.2.2 c_138)]
                · skip
                  refine v_iload (pc := 141) 0 dX4_fewest_141 rfl ?_
                  refine v_istore (pc := 143) (lv' := [(6, .int (nI i)), (7, .int (nI i)), (4, .long (W)), (0, .ref y0), (1, .int (nI j)), (2, .int (if P then 1 else 0)), (3, .int (wh))]) dX4_fewest_143 (by decide) rfl ?_
                  refine v_iinc (pc := 145) (v := nI (i + 1)) (lv' := [(7, .int (nI (i + 1))), (6, .int (nI i)), (4, .long (W)), (0, .ref y0), (1, .int (nI j)), (2, .int (if P then 1 else 0)), (3, .int (wh))]) 1 dX4_fewest_145 rfl (nI_inc (i) 1) (by decide) rfl ?_
                  refine v_goto (pc := 148) 50 dX4_fewest_148 (by decide) ?_
                  refine v_lv (lv' := [(7, .int (nI (i + 1))), (6, .int (nI i)), (4, .long (W)), (0, .ref y0), (1, .int (nI j)), (2, .int (if P then 1 else 0)), (3, .int (wh))]) [0, 1, 2, 3, 4, 5, 6] rfl ?_
                  refine ih_50 (i + 1) (nI i) (openF ((hm) ||| (nI i)) on nd br hv rl) bg_130 (by omega) ?_ ?_
                  · omega
                  · simp only [fewK]; rw [← h_50_1, if_pos ⟨c_74, c_84, c_138⟩]
      refine v_lv (lv' := [(7, .int (nI 0)), (6, .int (-4)), (4, .long (W)), (0, .ref y0), (1, .int (nI j)), (2, .int (if P then 1 else 0)), (3, .int (wh))]) [0, 1, 2, 3, 4, 5, 6] rfl ?_
      refine loop_50 ((2 ^ pp - 0) + 1) 0 (-4) hf bg (Nat.lt_succ_self _) ?_ ?_
      · omega
      · rfl
    · skip
      refine v_iconst (pc := 18) (v := -1) dX4_fewest_18 (by decide) ?_
      refine v_iret (pc := 19) dX4_fewest_19 rfl ⟨rfl, rfl⟩ (RtE2.i (hf) (bg) ?_ ?_)
      · skip
        first | simp only [if_pos c_8, if_neg c_15] | rfl
      · skip
        first | simp only [if_pos c_8, if_neg c_15] | rfl
theorem c_X4_police (l : Launch) (E : VE) (y0 : Nat) (yi : Nat) (yk : Nat) (t0 : Nat) (yn : Nat) (yt : Nat) (ys : Nat) (ym : Nat) (se : Nat) (tn : Int32) (l0 : Nat) (lh : Nat) (lb : Nat) (a0 : Nat) (ao : Nat) (aw : Nat) (an : Nat) (ab : Nat) (av : Nat) (nt : Nat) (pp : Nat) (rl : Nat) (hm : Int32) (sp : Int32) (td : Int32) (dt : Int32) (on : Nat → Int32) (wr : Nat → Int32) (nd : Nat → Int32) (br : Nat → Int32) (hf : Nat → Int64) (bg : Nat → Int64) (n : Int32) (wh : Int32) (w : Nat → Nat) (h_rl : rl ≤ 8) (h_nt : nt ≤ 6) (h_wr : ∀ k, k < rl → wr k = nI (w k) ∧ w k < 6) : Ct l E yX4_police cX4_police 6 (Option.some FieldType.int) 3 69 0 0 [.ref y0, .int (n), .int (wh)] [(y0, .inr (4, [.ref a0, .ref yi, .ref yk, .ref l0, .ref t0, .ref yn, .ref yt, .int (nI se), .ref ys, .int (tn), .ref ym])), (l0, .inr (0, [.ref lh, .ref lb])), (lh, .inl (E.2.1 2, 8, .inr (.inl (hf)))), (lb, .inl (E.2.1 2, 6, .inr (.inl (bg)))), (a0, .inr (2, [.int (nI nt), .int (nI pp), .int (nI rl), .int (hm), .int (sp), .int (td), .int (dt), .ref ao, .ref aw, .ref an, .ref ab, .ref av])), (ao, .inl (E.2.1 1, 8, .inl (on))), (aw, .inl (E.2.1 1, 8, .inl (wr))), (an, .inl (E.2.1 1, 8, .inl (nd))), (ab, .inl (E.2.1 1, 8, .inl (br)))] (RtE2 (some (.int (if okN n nt then (if wh = 0 ∨ wh = 1 then (if wh = 0 then szF (polK (HVj n.toNatClampNeg) (sp ||| ((1 : Int32) <<< (n &&& 31))) (fun s => (ag nt rl w (nI (2 ^ rl - 1)) (sp ||| nI s) (hm) on nd br)) (2 ^ nt)) else polK (HVj n.toNatClampNeg) (sp ||| ((1 : Int32) <<< (n &&& 31))) (fun s => (ag nt rl w (nI (2 ^ rl - 1)) (sp ||| nI s) (hm) on nd br)) (2 ^ nt)) else -1) else -1))) (fun (hf_ : Nat → Int64) (bg_ : Nat → Int64) => [(y0, .inr (4, [.ref a0, .ref yi, .ref yk, .ref l0, .ref t0, .ref yn, .ref yt, .int (nI se), .ref ys, .int (tn), .ref ym])), (l0, .inr (0, [.ref lh, .ref lb])), (lh, .inl (E.2.1 2, 8, .inr (.inl (hf_)))), (lb, .inl (E.2.1 2, 6, .inr (.inl (bg_)))), (a0, .inr (2, [.int (nI nt), .int (nI pp), .int (nI rl), .int (hm), .int (sp), .int (td), .int (dt), .ref ao, .ref aw, .ref an, .ref ab, .ref av])), (ao, .inl (E.2.1 1, 8, .inl (on))), (aw, .inl (E.2.1 1, 8, .inl (wr))), (an, .inl (E.2.1 1, 8, .inl (nd))), (ab, .inl (E.2.1 1, 8, .inl (br)))])) := by
  refine Ct.of (own := RX4) (nm := "police") (lv := [(0, .ref y0), (1, .int (n)), (2, .int (wh))]) (by decide) rfl rfl (Nat.le_of_ble_eq_true rfl) rfl ?_
  refine v_aload_n (pc := 0) 0 dX4_police_0 rfl rfl ?_
  refine gf_240 (pc := 1) 0 dX4_police_1 rfl rfl ?_
  refine v_iload_n (pc := 4) 1 dX4_police_4 rfl rfl ?_
  refine v_callV (pc := 5) (rest := []) [4] 4 lk_462 (c_X2_hasNote l E a0 ao aw an ab av nt pp rl hm sp td dt n) dX4_police_5 rfl rfl (Nat.le_of_ble_eq_true rfl) (by decide) rfl rfl rfl (by decide) rfl (Rt.len rfl) (Rt.go ?_)
  refine v_w (ws' := [(y0, .inr (4, [.ref a0, .ref yi, .ref yk, .ref l0, .ref t0, .ref yn, .ref yt, .int (nI se), .ref ys, .int (tn), .ref ym])), (l0, .inr (0, [.ref lh, .ref lb])), (lh, .inl (E.2.1 2, 8, .inr (.inl (hf)))), (lb, .inl (E.2.1 2, 6, .inr (.inl (bg)))), (a0, .inr (2, [.int (nI nt), .int (nI pp), .int (nI rl), .int (hm), .int (sp), .int (td), .int (dt), .ref ao, .ref aw, .ref an, .ref ab, .ref av])), (ao, .inl (E.2.1 1, 8, .inl (on))), (aw, .inl (E.2.1 1, 8, .inl (wr))), (an, .inl (E.2.1 1, 8, .inl (nd))), (ab, .inl (E.2.1 1, 8, .inl (br)))]) rfl ?_
  refine v_st (st' := [.int (if okN n nt then 1 else 0)]) rfl ?_
  refine v_ifB_eq (pc := 8) 18 dX4_police_8 (by decide) (fun c_8 => ?_) (fun c_8 => ?_)
  · skip
    refine v_iconst (pc := 18) (v := -1) dX4_police_18 (by decide) ?_
    refine v_iret (pc := 19) dX4_police_19 rfl ⟨rfl, rfl⟩ (RtE2.i (hf) (bg) ?_ ?_)
    · skip
      first | simp only [if_neg c_8] | rfl
    · skip
      first | simp only [if_neg c_8] | rfl
  · skip
    refine v_iload_n (pc := 11) 2 dX4_police_11 rfl rfl ?_
    refine v_callS (pc := 12) (rest := []) [] lk_531 (c_X4_isYesNo l E wh) dX4_police_12 rfl rfl (Nat.le_of_ble_eq_true rfl) (by decide) (by decide) rfl (Rt.len rfl) (Rt.go ?_)
    refine v_w (ws' := [(y0, .inr (4, [.ref a0, .ref yi, .ref yk, .ref l0, .ref t0, .ref yn, .ref yt, .int (nI se), .ref ys, .int (tn), .ref ym])), (l0, .inr (0, [.ref lh, .ref lb])), (lh, .inl (E.2.1 2, 8, .inr (.inl (hf)))), (lb, .inl (E.2.1 2, 6, .inr (.inl (bg)))), (a0, .inr (2, [.int (nI nt), .int (nI pp), .int (nI rl), .int (hm), .int (sp), .int (td), .int (dt), .ref ao, .ref aw, .ref an, .ref ab, .ref av])), (ao, .inl (E.2.1 1, 8, .inl (on))), (aw, .inl (E.2.1 1, 8, .inl (wr))), (an, .inl (E.2.1 1, 8, .inl (nd))), (ab, .inl (E.2.1 1, 8, .inl (br)))]) rfl ?_
    refine v_st (st' := [.int (if wh = 0 ∨ wh = 1 then 1 else 0)]) rfl ?_
    refine v_ifB_ne (pc := 15) 20 dX4_police_15 (by decide) (fun c_15 => ?_) (fun c_15 => ?_)
    · skip
      have h64 := p64 h_nt
      have h0p := p1 nt
      obtain ⟨j, hj, rfl⟩ := okN_ex c_8 (by omega)
      have hjc : (nI j).toNatClampNeg = j := nI_clamp (by omega)
      refine v_aload_n (pc := 20) 0 dX4_police_20 rfl rfl ?_
      refine gf_243 (pc := 21) 0 dX4_police_21 rfl rfl ?_
      refine v_aload_n (pc := 24) 0 dX4_police_24 rfl rfl ?_
      refine gf_240 (pc := 25) 0 dX4_police_25 rfl rfl ?_
      refine v_aload_n (pc := 28) 0 dX4_police_28 rfl rfl ?_
      refine gf_240 (pc := 29) 0 dX4_police_29 rfl rfl ?_
      refine gf_100 (pc := 32) 4 dX4_police_32 rfl rfl ?_
      refine v_callV (pc := 35) (rest := []) [1, 2, 4, 5, 7, 8] 1 lk_594 (c_X0_open l E l0 lh lb a0 ao aw an ab av nt pp rl hm sp td dt on nd br hm hf (by first | assumption | omega)) dX4_police_35 rfl rfl (Nat.le_of_ble_eq_true rfl) (by decide) rfl rfl rfl (by decide) rfl (Rt.len rfl) (Rt.go ?_)
      refine v_w (ws' := [(y0, .inr (4, [.ref a0, .ref yi, .ref yk, .ref l0, .ref t0, .ref yn, .ref yt, .int (nI se), .ref ys, .int (tn), .ref ym])), (l0, .inr (0, [.ref lh, .ref lb])), (lh, .inl (E.2.1 2, 8, .inr (.inl (openF hm on nd br hf rl)))), (lb, .inl (E.2.1 2, 6, .inr (.inl (bg)))), (a0, .inr (2, [.int (nI nt), .int (nI pp), .int (nI rl), .int (hm), .int (sp), .int (td), .int (dt), .ref ao, .ref aw, .ref an, .ref ab, .ref av])), (ao, .inl (E.2.1 1, 8, .inl (on))), (aw, .inl (E.2.1 1, 8, .inl (wr))), (an, .inl (E.2.1 1, 8, .inl (nd))), (ab, .inl (E.2.1 1, 8, .inl (br)))]) rfl ?_
      refine v_st (st' := []) rfl ?_
      refine v_aload_n (pc := 38) 0 dX4_police_38 rfl rfl ?_
      refine gf_240 (pc := 39) 0 dX4_police_39 rfl rfl ?_
      refine gf_104 (pc := 42) 4 dX4_police_42 rfl rfl ?_
      refine v_iconst (pc := 45) (v := 1) dX4_police_45 (by decide) ?_
      refine v_iload_n (pc := 46) 1 dX4_police_46 rfl rfl ?_
      refine v_ishl (pc := 47) dX4_police_47 ?_
      refine v_ior (pc := 48) dX4_police_48 ?_
      refine v_istore_n (pc := 49) (lv' := [(3, .int ((sp) ||| ((1 : Int32) <<< (((nI j)) &&& 31)))), (0, .ref y0), (1, .int ((nI j))), (2, .int (wh))]) dX4_police_49 rfl (by decide) rfl ?_
      refine v_bipush (pc := 50) (v := -4) dX4_police_50 (by decide) ?_
      refine v_istore (pc := 52) (lv' := [(4, .int (-4)), (3, .int (sp ||| ((1 : Int32) <<< (nI j &&& 31)))), (0, .ref y0), (1, .int ((nI j))), (2, .int (wh))]) dX4_police_52 (by decide) rfl ?_
      refine v_iconst (pc := 54) (v := 0) dX4_police_54 (by decide) ?_
      refine v_istore (pc := 55) (lv' := [(5, .int (0)), (4, .int (-4)), (3, .int (sp ||| ((1 : Int32) <<< (nI j &&& 31)))), (0, .ref y0), (1, .int ((nI j))), (2, .int (wh))]) dX4_police_55 (by decide) rfl ?_
      have loop_57 : ∀ (D_57 : Nat) (i : Nat) (b : Int32) (gb : Nat → Int64), 2 ^ nt - i < D_57 → (i ≤ 2 ^ nt) → (b = polK (HVj j) (sp ||| ((1 : Int32) <<< (nI j &&& 31))) (fun s => (ag nt rl w (nI (2 ^ rl - 1)) (sp ||| nI s) (hm) on nd br)) i) → V l E RX4 cX4_police 6 (Option.some FieldType.int) "police" ({ frames := 3, cells := 0, slots := 0, locals := 69 }) [(y0, .inr (4, [.ref a0, .ref yi, .ref yk, .ref l0, .ref t0, .ref yn, .ref yt, .int (nI se), .ref ys, .int (tn), .ref ym])), (l0, .inr (0, [.ref lh, .ref lb])), (lh, .inl (E.2.1 2, 8, .inr (.inl (hf)))), (lb, .inl (E.2.1 2, 6, .inr (.inl (bg)))), (a0, .inr (2, [.int (nI nt), .int (nI pp), .int (nI rl), .int (hm), .int (sp), .int (td), .int (dt), .ref ao, .ref aw, .ref an, .ref ab, .ref av])), (ao, .inl (E.2.1 1, 8, .inl (on))), (aw, .inl (E.2.1 1, 8, .inl (wr))), (an, .inl (E.2.1 1, 8, .inl (nd))), (ab, .inl (E.2.1 1, 8, .inl (br)))] 0 0 (RtE2 (some (.int (if okN (nI j) nt then (if wh = 0 ∨ wh = 1 then (if wh = 0 then szF (polK (HVj (nI j).toNatClampNeg) (sp ||| ((1 : Int32) <<< ((nI j) &&& 31))) (fun s => (ag nt rl w (nI (2 ^ rl - 1)) (sp ||| nI s) (hm) on nd br)) (2 ^ nt)) else polK (HVj (nI j).toNatClampNeg) (sp ||| ((1 : Int32) <<< ((nI j) &&& 31))) (fun s => (ag nt rl w (nI (2 ^ rl - 1)) (sp ||| nI s) (hm) on nd br)) (2 ^ nt)) else -1) else -1))) (fun (hf_ : Nat → Int64) (bg_ : Nat → Int64) => [(y0, .inr (4, [.ref a0, .ref yi, .ref yk, .ref l0, .ref t0, .ref yn, .ref yt, .int (nI se), .ref ys, .int (tn), .ref ym])), (l0, .inr (0, [.ref lh, .ref lb])), (lh, .inl (E.2.1 2, 8, .inr (.inl (hf_)))), (lb, .inl (E.2.1 2, 6, .inr (.inl (bg_)))), (a0, .inr (2, [.int (nI nt), .int (nI pp), .int (nI rl), .int (hm), .int (sp), .int (td), .int (dt), .ref ao, .ref aw, .ref an, .ref ab, .ref av])), (ao, .inl (E.2.1 1, 8, .inl (on))), (aw, .inl (E.2.1 1, 8, .inl (wr))), (an, .inl (E.2.1 1, 8, .inl (nd))), (ab, .inl (E.2.1 1, 8, .inl (br)))])) 0 0 57 [(5, .int (nI i)), (4, .int (b)), (3, .int (sp ||| ((1 : Int32) <<< (nI j &&& 31)))), (0, .ref y0), (1, .int (nI j)), (2, .int (wh))] [] [(y0, .inr (4, [.ref a0, .ref yi, .ref yk, .ref l0, .ref t0, .ref yn, .ref yt, .int (nI se), .ref ys, .int (tn), .ref ym])), (l0, .inr (0, [.ref lh, .ref lb])), (lh, .inl (E.2.1 2, 8, .inr (.inl (openF hm on nd br hf rl)))), (lb, .inl (E.2.1 2, 6, .inr (.inl (gb)))), (a0, .inr (2, [.int (nI nt), .int (nI pp), .int (nI rl), .int (hm), .int (sp), .int (td), .int (dt), .ref ao, .ref aw, .ref an, .ref ab, .ref av])), (ao, .inl (E.2.1 1, 8, .inl (on))), (aw, .inl (E.2.1 1, 8, .inl (wr))), (an, .inl (E.2.1 1, 8, .inl (nd))), (ab, .inl (E.2.1 1, 8, .inl (br)))] := by
        intro D_57
        induction D_57 with
        | zero => intro i b gb h; exact absurd h (Nat.not_lt_zero _)
        | succ D_57 ih_57 =>
          intro i b gb hmu_57 h_57_0 h_57_1
          refine v_iload (pc := 57) 0 dX4_police_57 rfl ?_
          refine v_aload_n (pc := 59) 3 dX4_police_59 rfl rfl ?_
          refine gf_240 (pc := 60) 0 dX4_police_60 rfl rfl ?_
          refine v_callV (pc := 63) (rest := [.int (nI i)]) [4] 4 lk_616 (c_X2_allNotes l E a0 ao aw an ab av nt pp rl hm sp td dt (by first | assumption | omega)) dX4_police_63 rfl rfl (Nat.le_of_ble_eq_true rfl) (by decide) rfl rfl rfl (by decide) rfl (Rt.len rfl) (Rt.go ?_)
          refine v_w (ws' := [(y0, .inr (4, [.ref a0, .ref yi, .ref yk, .ref l0, .ref t0, .ref yn, .ref yt, .int (nI se), .ref ys, .int (tn), .ref ym])), (l0, .inr (0, [.ref lh, .ref lb])), (lh, .inl (E.2.1 2, 8, .inr (.inl (openF hm on nd br hf rl)))), (lb, .inl (E.2.1 2, 6, .inr (.inl (gb)))), (a0, .inr (2, [.int (nI nt), .int (nI pp), .int (nI rl), .int (hm), .int (sp), .int (td), .int (dt), .ref ao, .ref aw, .ref an, .ref ab, .ref av])), (ao, .inl (E.2.1 1, 8, .inl (on))), (aw, .inl (E.2.1 1, 8, .inl (wr))), (an, .inl (E.2.1 1, 8, .inl (nd))), (ab, .inl (E.2.1 1, 8, .inl (br)))]) rfl ?_
          refine v_st (st' := [.int (nI (2 ^ nt - 1)), .int (nI i)]) rfl ?_
          refine v_cmpN_gt (pc := 66) (a := i) (b := 2 ^ nt - 1) 135 dX4_police_66 (by decide) (by omega) (by omega) (fun c_66 => ?_) (fun c_66 => ?_)
          · skip
            refine v_iload_n (pc := 135) 5 dX4_police_135 rfl rfl ?_
            refine v_if_ne (pc := 136) 147 dX4_police_136 (by decide) (fun c_136 => ?_) (fun c_136 => ?_)
            · skip
              refine v_iload (pc := 147) 1 dX4_police_147 rfl ?_
              refine v_iret (pc := 149) dX4_police_149 rfl ⟨rfl, rfl⟩ (RtE2.i (openF hm on nd br hf rl) (gb) ?_ ?_)
              · skip
                obtain rfl : i = 2 ^ nt := by omega
                rw [h_57_1, if_pos c_8, if_pos c_15, hjc, if_neg c_136]
              · skip
                rfl
            · skip
              refine v_iload (pc := 139) 1 dX4_police_139 rfl ?_
              refine v_callS (pc := 141) (rest := []) [] lk_643 (c_X4_sizeOf l E b) dX4_police_141 rfl rfl (Nat.le_of_ble_eq_true rfl) (by decide) (by decide) rfl (Rt.len rfl) (Rt.go ?_)
              refine v_w (ws' := [(y0, .inr (4, [.ref a0, .ref yi, .ref yk, .ref l0, .ref t0, .ref yn, .ref yt, .int (nI se), .ref ys, .int (tn), .ref ym])), (l0, .inr (0, [.ref lh, .ref lb])), (lh, .inl (E.2.1 2, 8, .inr (.inl (openF hm on nd br hf rl)))), (lb, .inl (E.2.1 2, 6, .inr (.inl (gb)))), (a0, .inr (2, [.int (nI nt), .int (nI pp), .int (nI rl), .int (hm), .int (sp), .int (td), .int (dt), .ref ao, .ref aw, .ref an, .ref ab, .ref av])), (ao, .inl (E.2.1 1, 8, .inl (on))), (aw, .inl (E.2.1 1, 8, .inl (wr))), (an, .inl (E.2.1 1, 8, .inl (nd))), (ab, .inl (E.2.1 1, 8, .inl (br)))]) rfl ?_
              refine v_st (st' := [.int (if b = -4 then -4 else bci b)]) rfl ?_
              refine v_goto (pc := 144) 149 dX4_police_144 (by decide) ?_
              refine v_iret (pc := 149) dX4_police_149 rfl ⟨rfl, rfl⟩ (RtE2.i (openF hm on nd br hf rl) (gb) ?_ ?_)
              · skip
                obtain rfl : i = 2 ^ nt := by omega
                rw [h_57_1, if_pos c_8, if_pos c_15, hjc, if_pos c_136, szF]
              · skip
                rfl
          · skip
            refine v_iload (pc := 69) 0 dX4_police_69 rfl ?_
            refine v_iload_n (pc := 71) 2 dX4_police_71 rfl rfl ?_
            refine v_iand (pc := 72) dX4_police_72 ?_
            refine v_if_ne (pc := 73) 129 dX4_police_73 (by decide) (fun c_73 => ?_) (fun c_73 => ?_)
            · skip
              refine v_iinc (pc := 129) (v := nI (i + 1)) (lv' := [(5, .int (nI (i + 1))), (4, .int (b)), (3, .int (sp ||| ((1 : Int32) <<< (nI j &&& 31)))), (0, .ref y0), (1, .int (nI j)), (2, .int (wh))]) 0 dX4_police_129 rfl (nI_inc (i) 1) (by decide) rfl ?_
              refine v_goto (pc := 132) 57 dX4_police_132 (by decide) ?_
              refine v_lv (lv' := [(5, .int (nI (i + 1))), (4, .int (b)), (3, .int (sp ||| ((1 : Int32) <<< (nI j &&& 31)))), (0, .ref y0), (1, .int (nI j)), (2, .int (wh))]) [0, 1, 2, 3, 4, 5] rfl ?_
              refine ih_57 (i + 1) b gb (by omega) ?_ ?_
              · omega
              · simp only [polK]; rw [← h_57_1, if_neg (fun q => c_73 q.1)]
            · skip
              refine v_iload (pc := 76) 0 dX4_police_76 rfl ?_
              refine v_iload (pc := 78) 1 dX4_police_78 rfl ?_
              refine v_callS (pc := 80) (rest := []) [] lk_633 (c_X4_isFewer l E (nI i) b) dX4_police_80 rfl rfl (Nat.le_of_ble_eq_true rfl) (by decide) (by decide) rfl (Rt.len rfl) (Rt.go ?_)
              refine v_w (ws' := [(y0, .inr (4, [.ref a0, .ref yi, .ref yk, .ref l0, .ref t0, .ref yn, .ref yt, .int (nI se), .ref ys, .int (tn), .ref ym])), (l0, .inr (0, [.ref lh, .ref lb])), (lh, .inl (E.2.1 2, 8, .inr (.inl (openF hm on nd br hf rl)))), (lb, .inl (E.2.1 2, 6, .inr (.inl (gb)))), (a0, .inr (2, [.int (nI nt), .int (nI pp), .int (nI rl), .int (hm), .int (sp), .int (td), .int (dt), .ref ao, .ref aw, .ref an, .ref ab, .ref av])), (ao, .inl (E.2.1 1, 8, .inl (on))), (aw, .inl (E.2.1 1, 8, .inl (wr))), (an, .inl (E.2.1 1, 8, .inl (nd))), (ab, .inl (E.2.1 1, 8, .inl (br)))]) rfl ?_
              refine v_st (st' := [.int (if fewP (nI i) b then 1 else 0)]) rfl ?_
              refine v_ifB_eq (pc := 83) 129 dX4_police_83 (by decide) (fun c_83 => ?_) (fun c_83 => ?_)
              · skip
                refine v_iinc (pc := 129) (v := nI (i + 1)) (lv' := [(5, .int (nI (i + 1))), (4, .int (b)), (3, .int (sp ||| ((1 : Int32) <<< (nI j &&& 31)))), (0, .ref y0), (1, .int (nI j)), (2, .int (wh))]) 0 dX4_police_129 rfl (nI_inc (i) 1) (by decide) rfl ?_
                refine v_goto (pc := 132) 57 dX4_police_132 (by decide) ?_
                refine v_lv (lv' := [(5, .int (nI (i + 1))), (4, .int (b)), (3, .int (sp ||| ((1 : Int32) <<< (nI j &&& 31)))), (0, .ref y0), (1, .int (nI j)), (2, .int (wh))]) [0, 1, 2, 3, 4, 5] rfl ?_
                refine ih_57 (i + 1) b gb (by omega) ?_ ?_
                · omega
                · simp only [polK]; rw [← h_57_1, if_neg (fun q => c_83 q.2.1)]
              · skip
                refine v_aload_n (pc := 86) 3 dX4_police_86 rfl rfl ?_
                refine gf_243 (pc := 87) 0 dX4_police_87 rfl rfl ?_
                refine v_aload_n (pc := 90) 3 dX4_police_90 rfl rfl ?_
                refine gf_240 (pc := 91) 0 dX4_police_91 rfl rfl ?_
                refine v_aload_n (pc := 94) 3 dX4_police_94 rfl rfl ?_
                refine gf_240 (pc := 95) 0 dX4_police_95 rfl rfl ?_
                refine v_callV (pc := 98) (rest := [.ref a0, .ref l0]) [4] 4 lk_642 (c_X2_allRules l E a0 ao aw an ab av nt pp rl hm sp td dt (by first | assumption | omega)) dX4_police_98 rfl rfl (Nat.le_of_ble_eq_true rfl) (by decide) rfl rfl rfl (by decide) rfl (Rt.len rfl) (Rt.go ?_)
                refine v_w (ws' := [(y0, .inr (4, [.ref a0, .ref yi, .ref yk, .ref l0, .ref t0, .ref yn, .ref yt, .int (nI se), .ref ys, .int (tn), .ref ym])), (l0, .inr (0, [.ref lh, .ref lb])), (lh, .inl (E.2.1 2, 8, .inr (.inl (openF hm on nd br hf rl)))), (lb, .inl (E.2.1 2, 6, .inr (.inl (gb)))), (a0, .inr (2, [.int (nI nt), .int (nI pp), .int (nI rl), .int (hm), .int (sp), .int (td), .int (dt), .ref ao, .ref aw, .ref an, .ref ab, .ref av])), (ao, .inl (E.2.1 1, 8, .inl (on))), (aw, .inl (E.2.1 1, 8, .inl (wr))), (an, .inl (E.2.1 1, 8, .inl (nd))), (ab, .inl (E.2.1 1, 8, .inl (br)))]) rfl ?_
                refine v_st (st' := [.int (nI (2 ^ rl - 1)), .ref a0, .ref l0]) rfl ?_
                refine v_aload_n (pc := 101) 3 dX4_police_101 rfl rfl ?_
                refine gf_240 (pc := 102) 0 dX4_police_102 rfl rfl ?_
                refine gf_104 (pc := 105) 4 dX4_police_105 rfl rfl ?_
                refine v_iload (pc := 108) 0 dX4_police_108 rfl ?_
                refine v_ior (pc := 110) dX4_police_110 ?_
                refine v_callV (pc := 111) (rest := []) [1, 2, 3, 4, 6] 1 lk_595 (c_X0_agreeing l E l0 lh lb a0 ao aw an ab av nt pp rl hm sp td dt on wr nd br (nI (2 ^ rl - 1)) ((sp) ||| (nI i)) hm (openF hm on nd br hf rl) gb w (by first | assumption | omega) (by first | assumption | omega) (by first | assumption | omega) open_ho) dX4_police_111 rfl rfl (Nat.le_of_ble_eq_true rfl) (by decide) rfl rfl rfl (by decide) rfl (RtE1.len (fun _ => rfl)) (RtE1.go (fun bg_111 => ?_))
                refine v_w (ws' := [(y0, .inr (4, [.ref a0, .ref yi, .ref yk, .ref l0, .ref t0, .ref yn, .ref yt, .int (nI se), .ref ys, .int (tn), .ref ym])), (l0, .inr (0, [.ref lh, .ref lb])), (lh, .inl (E.2.1 2, 8, .inr (.inl ((openF hm on nd br hf rl))))), (lb, .inl (E.2.1 2, 6, .inr (.inl (bg_111)))), (a0, .inr (2, [.int (nI nt), .int (nI pp), .int (nI rl), .int (hm), .int (sp), .int (td), .int (dt), .ref ao, .ref aw, .ref an, .ref ab, .ref av])), (ao, .inl (E.2.1 1, 8, .inl (on))), (aw, .inl (E.2.1 1, 8, .inl (wr))), (an, .inl (E.2.1 1, 8, .inl (nd))), (ab, .inl (E.2.1 1, 8, .inl (br)))]) rfl ?_
                refine v_st (st' := [.long (ag nt rl w (nI (2 ^ rl - 1)) ((sp) ||| (nI i)) hm on nd br)]) rfl ?_
                refine v_gsHV (pc := 114) dX4_police_114 tb_584 ?_
                refine v_iload_n (pc := 117) 4 dX4_police_117 rfl rfl ?_
                refine v_tlHVN (pc := 118) (j) dX4_police_118 rfl (by omega) ?_
                refine v_land (pc := 119) dX4_police_119 ?_
                refine v_lconst (pc := 120) (v := 0) dX4_police_120 (by decide) ?_
                refine v_lcmp (pc := 121) dX4_police_121 ?_
                refine v_lc_ne (pc := 122) 129 dX4_police_122 (by decide) (fun c_122 => ?_) (fun c_122 => ?_)
                · skip
                  refine v_iinc (pc := 129) (v := nI (i + 1)) (lv' := [(5, .int (nI (i + 1))), (4, .int (b)), (3, .int (sp ||| ((1 : Int32) <<< (nI j &&& 31)))), (0, .ref y0), (1, .int (nI j)), (2, .int (wh))]) 0 dX4_police_129 rfl (nI_inc (i) 1) (by decide) rfl ?_
                  refine v_goto (pc := 132) 57 dX4_police_132 (by decide) ?_
                  refine v_lv (lv' := [(5, .int (nI (i + 1))), (4, .int (b)), (3, .int (sp ||| ((1 : Int32) <<< (nI j &&& 31)))), (0, .ref y0), (1, .int (nI j)), (2, .int (wh))]) [0, 1, 2, 3, 4, 5] rfl ?_
                  refine ih_57 (i + 1) b bg_111 (by omega) ?_ ?_
                  · omega
                  · simp only [polK]; rw [← h_57_1, if_neg (fun q => c_122 q.2.2)]
                · skip
                  refine v_iload (pc := 125) 0 dX4_police_125 rfl ?_
                  refine v_istore (pc := 127) (lv' := [(4, .int (nI i)), (5, .int (nI i)), (3, .int (sp ||| ((1 : Int32) <<< (nI j &&& 31)))), (0, .ref y0), (1, .int (nI j)), (2, .int (wh))]) dX4_police_127 (by decide) rfl ?_
                  refine v_iinc (pc := 129) (v := nI (i + 1)) (lv' := [(5, .int (nI (i + 1))), (4, .int (nI i)), (3, .int (sp ||| ((1 : Int32) <<< (nI j &&& 31)))), (0, .ref y0), (1, .int (nI j)), (2, .int (wh))]) 1 dX4_police_129 rfl (nI_inc (i) 1) (by decide) rfl ?_
                  refine v_goto (pc := 132) 57 dX4_police_132 (by decide) ?_
                  refine v_lv (lv' := [(5, .int (nI (i + 1))), (4, .int (nI i)), (3, .int (sp ||| ((1 : Int32) <<< (nI j &&& 31)))), (0, .ref y0), (1, .int (nI j)), (2, .int (wh))]) [0, 1, 2, 3, 4, 5] rfl ?_
                  refine ih_57 (i + 1) (nI i) bg_111 (by omega) ?_ ?_
                  · omega
                  · simp only [polK]; rw [← h_57_1, if_pos ⟨c_73, c_83, c_122⟩]
      refine v_lv (lv' := [(5, .int (nI 0)), (4, .int (-4)), (3, .int (sp ||| ((1 : Int32) <<< (nI j &&& 31)))), (0, .ref y0), (1, .int (nI j)), (2, .int (wh))]) [0, 1, 2, 3, 4, 5] rfl ?_
      refine loop_57 ((2 ^ nt - 0) + 1) 0 (-4) bg (Nat.lt_succ_self _) ?_ ?_
      · omega
      · rfl
    · skip
      refine v_iconst (pc := 18) (v := -1) dX4_police_18 (by decide) ?_
      refine v_iret (pc := 19) dX4_police_19 rfl ⟨rfl, rfl⟩ (RtE2.i (hf) (bg) ?_ ?_)
      · skip
        first | simp only [if_pos c_8, if_neg c_15] | rfl
      · skip
        first | simp only [if_pos c_8, if_neg c_15] | rfl
theorem c_X4_comes (l : Launch) (E : VE) (y0 : Nat) (yi : Nat) (yk : Nat) (t0 : Nat) (yn : Nat) (yt : Nat) (ys : Nat) (ym : Nat) (se : Nat) (tn : Int32) (l0 : Nat) (lh : Nat) (lb : Nat) (a0 : Nat) (ao : Nat) (aw : Nat) (an : Nat) (ab : Nat) (av : Nat) (nt : Nat) (pp : Nat) (rl : Nat) (hm : Int32) (sp : Int32) (td : Int32) (dt : Int32) (on : Nat → Int32) (wr : Nat → Int32) (nd : Nat → Int32) (br : Nat → Int32) (hf : Nat → Int64) (bg : Nat → Int64) (w : Nat → Nat) (h_rl : rl ≤ 8) (h_nt : nt ≤ 6) (h_wr : ∀ k, k < rl → wr k = nI (w k) ∧ w k < 6) : Ct l E yX4_comes cX4_comes 7 (Option.some FieldType.int) 4 90 0 0 [.ref y0] [(y0, .inr (4, [.ref a0, .ref yi, .ref yk, .ref l0, .ref t0, .ref yn, .ref yt, .int (nI se), .ref ys, .int (tn), .ref ym])), (l0, .inr (0, [.ref lh, .ref lb])), (lh, .inl (E.2.1 2, 8, .inr (.inl (hf)))), (lb, .inl (E.2.1 2, 6, .inr (.inl (bg)))), (a0, .inr (2, [.int (nI nt), .int (nI pp), .int (nI rl), .int (hm), .int (sp), .int (td), .int (dt), .ref ao, .ref aw, .ref an, .ref ab, .ref av])), (ao, .inl (E.2.1 1, 8, .inl (on))), (aw, .inl (E.2.1 1, 8, .inl (wr))), (an, .inl (E.2.1 1, 8, .inl (nd))), (ab, .inl (E.2.1 1, 8, .inl (br)))] (RtE2 (some (.int ((comK (ag nt rl w (nI (2 ^ rl - 1)) sp hm on nd br) td (2 ^ nt)).1))) (fun (hf_ : Nat → Int64) (bg_ : Nat → Int64) => [(y0, .inr (4, [.ref a0, .ref yi, .ref yk, .ref l0, .ref t0, .ref yn, .ref yt, .int (nI se), .ref ys, .int (tn), .ref ym])), (l0, .inr (0, [.ref lh, .ref lb])), (lh, .inl (E.2.1 2, 8, .inr (.inl (hf_)))), (lb, .inl (E.2.1 2, 6, .inr (.inl (bg_)))), (a0, .inr (2, [.int (nI nt), .int (nI pp), .int (nI rl), .int (hm), .int (sp), .int (td), .int (dt), .ref ao, .ref aw, .ref an, .ref ab, .ref av])), (ao, .inl (E.2.1 1, 8, .inl (on))), (aw, .inl (E.2.1 1, 8, .inl (wr))), (an, .inl (E.2.1 1, 8, .inl (nd))), (ab, .inl (E.2.1 1, 8, .inl (br)))])) := by
  refine Ct.of (own := RX4) (nm := "comes") (lv := [(0, .ref y0)]) (by decide) rfl rfl (Nat.le_of_ble_eq_true rfl) rfl ?_
  refine v_aload_n (pc := 0) 0 dX4_comes_0 rfl rfl ?_
  refine gf_243 (pc := 1) 0 dX4_comes_1 rfl rfl ?_
  refine v_aload_n (pc := 4) 0 dX4_comes_4 rfl rfl ?_
  refine gf_240 (pc := 5) 0 dX4_comes_5 rfl rfl ?_
  refine v_callV (pc := 8) (rest := []) [1, 2, 3, 4, 5, 6, 7, 8] 1 lk_539 (c_X0_agreeingNow l E l0 lh lb a0 ao aw an ab av nt pp rl hm sp td dt on wr nd br hf bg w (by first | assumption | omega) (by first | assumption | omega) (by first | assumption | omega)) dX4_comes_8 rfl rfl (Nat.le_of_ble_eq_true rfl) (by decide) rfl rfl rfl (by decide) rfl (RtE2.len (fun _ _ => rfl)) (RtE2.go (fun hf_8 bg_8 => ?_))
  refine v_w (ws' := [(y0, .inr (4, [.ref a0, .ref yi, .ref yk, .ref l0, .ref t0, .ref yn, .ref yt, .int (nI se), .ref ys, .int (tn), .ref ym])), (l0, .inr (0, [.ref lh, .ref lb])), (lh, .inl (E.2.1 2, 8, .inr (.inl (hf_8)))), (lb, .inl (E.2.1 2, 6, .inr (.inl (bg_8)))), (a0, .inr (2, [.int (nI nt), .int (nI pp), .int (nI rl), .int (hm), .int (sp), .int (td), .int (dt), .ref ao, .ref aw, .ref an, .ref ab, .ref av])), (ao, .inl (E.2.1 1, 8, .inl (on))), (aw, .inl (E.2.1 1, 8, .inl (wr))), (an, .inl (E.2.1 1, 8, .inl (nd))), (ab, .inl (E.2.1 1, 8, .inl (br)))]) rfl ?_
  refine v_st (st' := [.long (ag nt rl w (nI (2 ^ rl - 1)) sp hm on nd br)]) rfl ?_
  refine v_lstore_n (pc := 11) (lv' := [(1, .long (ag nt rl w (nI (2 ^ rl - 1)) sp hm on nd br)), (0, .ref y0)]) dX4_comes_11 rfl (by decide) rfl ?_
  have h64 := p64 h_nt
  have h0p := p1 nt
  refine v_bipush (pc := 12) (v := -4) dX4_comes_12 (by decide) ?_
  refine v_istore_n (pc := 14) (lv' := [(3, .int (-4)), (1, .long (ag nt rl w (nI (2 ^ rl - 1)) sp hm on nd br)), (0, .ref y0)]) dX4_comes_14 rfl (by decide) rfl ?_
  refine v_bipush (pc := 15) (v := 7) dX4_comes_15 (by decide) ?_
  refine v_istore (pc := 17) (lv' := [(4, .int (7)), (3, .int (-4)), (1, .long (ag nt rl w (nI (2 ^ rl - 1)) sp hm on nd br)), (0, .ref y0)]) dX4_comes_17 (by decide) rfl ?_
  refine v_iconst (pc := 19) (v := 0) dX4_comes_19 (by decide) ?_
  refine v_istore (pc := 20) (lv' := [(5, .int (0)), (4, .int (7)), (3, .int (-4)), (1, .long (ag nt rl w (nI (2 ^ rl - 1)) sp hm on nd br)), (0, .ref y0)]) dX4_comes_20 (by decide) rfl ?_
  have loop_22 : ∀ (D_22 : Nat) (i : Nat) (b : Int32) (ch : Int32), 2 ^ nt - i < D_22 → (i ≤ 2 ^ nt) → ((b, ch) = comK (ag nt rl w (nI (2 ^ rl - 1)) sp hm on nd br) td i) → V l E RX4 cX4_comes 7 (Option.some FieldType.int) "comes" ({ frames := 4, cells := 0, slots := 0, locals := 90 }) [(y0, .inr (4, [.ref a0, .ref yi, .ref yk, .ref l0, .ref t0, .ref yn, .ref yt, .int (nI se), .ref ys, .int (tn), .ref ym])), (l0, .inr (0, [.ref lh, .ref lb])), (lh, .inl (E.2.1 2, 8, .inr (.inl (hf)))), (lb, .inl (E.2.1 2, 6, .inr (.inl (bg)))), (a0, .inr (2, [.int (nI nt), .int (nI pp), .int (nI rl), .int (hm), .int (sp), .int (td), .int (dt), .ref ao, .ref aw, .ref an, .ref ab, .ref av])), (ao, .inl (E.2.1 1, 8, .inl (on))), (aw, .inl (E.2.1 1, 8, .inl (wr))), (an, .inl (E.2.1 1, 8, .inl (nd))), (ab, .inl (E.2.1 1, 8, .inl (br)))] 0 0 (RtE2 (some (.int ((comK (ag nt rl w (nI (2 ^ rl - 1)) sp hm on nd br) td (2 ^ nt)).1))) (fun (hf_ : Nat → Int64) (bg_ : Nat → Int64) => [(y0, .inr (4, [.ref a0, .ref yi, .ref yk, .ref l0, .ref t0, .ref yn, .ref yt, .int (nI se), .ref ys, .int (tn), .ref ym])), (l0, .inr (0, [.ref lh, .ref lb])), (lh, .inl (E.2.1 2, 8, .inr (.inl (hf_)))), (lb, .inl (E.2.1 2, 6, .inr (.inl (bg_)))), (a0, .inr (2, [.int (nI nt), .int (nI pp), .int (nI rl), .int (hm), .int (sp), .int (td), .int (dt), .ref ao, .ref aw, .ref an, .ref ab, .ref av])), (ao, .inl (E.2.1 1, 8, .inl (on))), (aw, .inl (E.2.1 1, 8, .inl (wr))), (an, .inl (E.2.1 1, 8, .inl (nd))), (ab, .inl (E.2.1 1, 8, .inl (br)))])) 0 0 22 [(5, .int (nI i)), (3, .int (b)), (4, .int (ch)), (1, .long ((ag nt rl w (nI (2 ^ rl - 1)) sp hm on nd br))), (0, .ref y0)] [] [(y0, .inr (4, [.ref a0, .ref yi, .ref yk, .ref l0, .ref t0, .ref yn, .ref yt, .int (nI se), .ref ys, .int (tn), .ref ym])), (l0, .inr (0, [.ref lh, .ref lb])), (lh, .inl (E.2.1 2, 8, .inr (.inl (hf_8)))), (lb, .inl (E.2.1 2, 6, .inr (.inl (bg_8)))), (a0, .inr (2, [.int (nI nt), .int (nI pp), .int (nI rl), .int (hm), .int (sp), .int (td), .int (dt), .ref ao, .ref aw, .ref an, .ref ab, .ref av])), (ao, .inl (E.2.1 1, 8, .inl (on))), (aw, .inl (E.2.1 1, 8, .inl (wr))), (an, .inl (E.2.1 1, 8, .inl (nd))), (ab, .inl (E.2.1 1, 8, .inl (br)))] := by
    intro D_22
    induction D_22 with
    | zero => intro i b ch h; exact absurd h (Nat.not_lt_zero _)
    | succ D_22 ih_22 =>
      intro i b ch hmu_22 h_22_0 h_22_1
      refine v_iload (pc := 22) 0 dX4_comes_22 rfl ?_
      refine v_aload_n (pc := 24) 4 dX4_comes_24 rfl rfl ?_
      refine gf_240 (pc := 25) 0 dX4_comes_25 rfl rfl ?_
      refine v_callV (pc := 28) (rest := [.int (nI i)]) [4] 4 lk_616 (c_X2_allNotes l E a0 ao aw an ab av nt pp rl hm sp td dt (by first | assumption | omega)) dX4_comes_28 rfl rfl (Nat.le_of_ble_eq_true rfl) (by decide) rfl rfl rfl (by decide) rfl (Rt.len rfl) (Rt.go ?_)
      refine v_w (ws' := [(y0, .inr (4, [.ref a0, .ref yi, .ref yk, .ref l0, .ref t0, .ref yn, .ref yt, .int (nI se), .ref ys, .int (tn), .ref ym])), (l0, .inr (0, [.ref lh, .ref lb])), (lh, .inl (E.2.1 2, 8, .inr (.inl (hf_8)))), (lb, .inl (E.2.1 2, 6, .inr (.inl (bg_8)))), (a0, .inr (2, [.int (nI nt), .int (nI pp), .int (nI rl), .int (hm), .int (sp), .int (td), .int (dt), .ref ao, .ref aw, .ref an, .ref ab, .ref av])), (ao, .inl (E.2.1 1, 8, .inl (on))), (aw, .inl (E.2.1 1, 8, .inl (wr))), (an, .inl (E.2.1 1, 8, .inl (nd))), (ab, .inl (E.2.1 1, 8, .inl (br)))]) rfl ?_
      refine v_st (st' := [.int (nI (2 ^ nt - 1)), .int (nI i)]) rfl ?_
      refine v_cmpN_gt (pc := 31) (a := i) (b := 2 ^ nt - 1) 78 dX4_comes_31 (by decide) (by omega) (by omega) (fun c_31 => ?_) (fun c_31 => ?_)
      · skip
        refine v_iload_n (pc := 78) 1 dX4_comes_78 rfl rfl ?_
        refine v_iret (pc := 79) dX4_comes_79 rfl ⟨rfl, rfl⟩ (RtE2.i (hf_8) (bg_8) ?_ ?_)
        · skip
          obtain rfl : i = 2 ^ nt := by omega
          rw [← h_22_1]
        · skip
          rfl
      · skip
        refine v_iload (pc := 34) 0 dX4_comes_34 rfl ?_
        refine v_aload_n (pc := 36) 4 dX4_comes_36 rfl rfl ?_
        refine gf_240 (pc := 37) 0 dX4_comes_37 rfl rfl ?_
        refine gf_107 (pc := 40) 4 dX4_comes_40 rfl rfl ?_
        refine v_ixor (pc := 43) dX4_comes_43 ?_
        refine v_callS (pc := 44) (rest := []) [] lk_636 (c_J6_bitCount_0f7a4 l E ((nI i) ^^^ (td))) dX4_comes_44 rfl rfl (Nat.le_of_ble_eq_true rfl) (by decide) (by decide) rfl (Rt.len rfl) (Rt.go ?_)
        refine v_w (ws' := [(y0, .inr (4, [.ref a0, .ref yi, .ref yk, .ref l0, .ref t0, .ref yn, .ref yt, .int (nI se), .ref ys, .int (tn), .ref ym])), (l0, .inr (0, [.ref lh, .ref lb])), (lh, .inl (E.2.1 2, 8, .inr (.inl (hf_8)))), (lb, .inl (E.2.1 2, 6, .inr (.inl (bg_8)))), (a0, .inr (2, [.int (nI nt), .int (nI pp), .int (nI rl), .int (hm), .int (sp), .int (td), .int (dt), .ref ao, .ref aw, .ref an, .ref ab, .ref av])), (ao, .inl (E.2.1 1, 8, .inl (on))), (aw, .inl (E.2.1 1, 8, .inl (wr))), (an, .inl (E.2.1 1, 8, .inl (nd))), (ab, .inl (E.2.1 1, 8, .inl (br)))]) rfl ?_
        refine v_st (st' := [.int (bci ((nI i) ^^^ (td)))]) rfl ?_
        refine v_istore (pc := 47) (lv' := [(6, .int (bci ((nI i) ^^^ (td)))), (5, .int (nI i)), (3, .int (b)), (4, .int (ch)), (1, .long ((ag nt rl w (nI (2 ^ rl - 1)) sp hm on nd br))), (0, .ref y0)]) dX4_comes_47 (by decide) rfl ?_
        refine v_iload (pc := 49) 1 dX4_comes_49 rfl ?_
        refine v_lload_n (pc := 51) 4 dX4_comes_51 rfl rfl ?_
        refine v_callS (pc := 52) (rest := []) [] lk_574 (c_X4_isAmong l E (nI i) (ag nt rl w (nI (2 ^ rl - 1)) sp hm on nd br)) dX4_comes_52 rfl rfl (Nat.le_of_ble_eq_true rfl) (by decide) (by decide) rfl (Rt.len rfl) (Rt.go ?_)
        refine v_w (ws' := [(y0, .inr (4, [.ref a0, .ref yi, .ref yk, .ref l0, .ref t0, .ref yn, .ref yt, .int (nI se), .ref ys, .int (tn), .ref ym])), (l0, .inr (0, [.ref lh, .ref lb])), (lh, .inl (E.2.1 2, 8, .inr (.inl (hf_8)))), (lb, .inl (E.2.1 2, 6, .inr (.inl (bg_8)))), (a0, .inr (2, [.int (nI nt), .int (nI pp), .int (nI rl), .int (hm), .int (sp), .int (td), .int (dt), .ref ao, .ref aw, .ref an, .ref ab, .ref av])), (ao, .inl (E.2.1 1, 8, .inl (on))), (aw, .inl (E.2.1 1, 8, .inl (wr))), (an, .inl (E.2.1 1, 8, .inl (nd))), (ab, .inl (E.2.1 1, 8, .inl (br)))]) rfl ?_
        refine v_st (st' := [.int (if isIn (nI i) (ag nt rl w (nI (2 ^ rl - 1)) sp hm on nd br) then 1 else 0)]) rfl ?_
        refine v_ifB_eq (pc := 55) 72 dX4_comes_55 (by decide) (fun c_55 => ?_) (fun c_55 => ?_)
        · skip
          refine v_iinc (pc := 72) (v := nI (i + 1)) (lv' := [(5, .int (nI (i + 1))), (6, .int (bci ((nI i) ^^^ (td)))), (3, .int (b)), (4, .int (ch)), (1, .long ((ag nt rl w (nI (2 ^ rl - 1)) sp hm on nd br))), (0, .ref y0)]) 1 dX4_comes_72 rfl (nI_inc (i) 1) (by decide) rfl ?_
          refine v_goto (pc := 75) 22 dX4_comes_75 (by decide) ?_
          refine v_lv (lv' := [(5, .int (nI (i + 1))), (3, .int (b)), (4, .int (ch)), (1, .long ((ag nt rl w (nI (2 ^ rl - 1)) sp hm on nd br))), (0, .ref y0)]) [0, 2, 3, 4, 5] rfl ?_
          refine ih_22 (i + 1) b ch (by omega) ?_ ?_
          · omega
          · simp only [comK]; rw [← h_22_1, if_neg (fun q => c_55 q.1)]
        · skip
          refine v_iload (pc := 58) 0 dX4_comes_58 rfl ?_
          refine v_iload (pc := 60) 3 dX4_comes_60 rfl ?_
          refine v_icmp_ge (pc := 62) 72 dX4_comes_62 (by decide) (fun c_62 => ?_) (fun c_62 => ?_)
          · skip
            refine v_iinc (pc := 72) (v := nI (i + 1)) (lv' := [(5, .int (nI (i + 1))), (6, .int (bci ((nI i) ^^^ (td)))), (3, .int (b)), (4, .int (ch)), (1, .long ((ag nt rl w (nI (2 ^ rl - 1)) sp hm on nd br))), (0, .ref y0)]) 1 dX4_comes_72 rfl (nI_inc (i) 1) (by decide) rfl ?_
            refine v_goto (pc := 75) 22 dX4_comes_75 (by decide) ?_
            refine v_lv (lv' := [(5, .int (nI (i + 1))), (3, .int (b)), (4, .int (ch)), (1, .long ((ag nt rl w (nI (2 ^ rl - 1)) sp hm on nd br))), (0, .ref y0)]) [0, 2, 3, 4, 5] rfl ?_
            refine ih_22 (i + 1) b ch (by omega) ?_ ?_
            · omega
            · simp only [comK]; rw [← h_22_1, if_neg (fun q => q.2 c_62)]
          · skip
            refine v_iload (pc := 65) 1 dX4_comes_65 rfl ?_
            refine v_istore_n (pc := 67) (lv' := [(3, .int (nI i)), (6, .int (bci ((nI i) ^^^ (td)))), (5, .int (nI i)), (4, .int (ch)), (1, .long ((ag nt rl w (nI (2 ^ rl - 1)) sp hm on nd br))), (0, .ref y0)]) dX4_comes_67 rfl (by decide) rfl ?_
            refine v_iload (pc := 68) 1 dX4_comes_68 rfl ?_
            refine v_istore (pc := 70) (lv' := [(4, .int (bci ((nI i) ^^^ (td)))), (3, .int (nI i)), (6, .int (bci ((nI i) ^^^ (td)))), (5, .int (nI i)), (1, .long ((ag nt rl w (nI (2 ^ rl - 1)) sp hm on nd br))), (0, .ref y0)]) dX4_comes_70 (by decide) rfl ?_
            refine v_iinc (pc := 72) (v := nI (i + 1)) (lv' := [(5, .int (nI (i + 1))), (4, .int (bci ((nI i) ^^^ (td)))), (3, .int (nI i)), (6, .int (bci ((nI i) ^^^ (td)))), (1, .long ((ag nt rl w (nI (2 ^ rl - 1)) sp hm on nd br))), (0, .ref y0)]) 3 dX4_comes_72 rfl (nI_inc (i) 1) (by decide) rfl ?_
            refine v_goto (pc := 75) 22 dX4_comes_75 (by decide) ?_
            refine v_lv (lv' := [(5, .int (nI (i + 1))), (3, .int (nI i)), (4, .int (bci ((nI i) ^^^ (td)))), (1, .long ((ag nt rl w (nI (2 ^ rl - 1)) sp hm on nd br))), (0, .ref y0)]) [0, 2, 1, 4, 5] rfl ?_
            refine ih_22 (i + 1) (nI i) (bci ((nI i) ^^^ (td))) (by omega) ?_ ?_
            · omega
            · simp only [comK]; rw [← h_22_1, if_pos ⟨c_55, c_62⟩]
  refine v_lv (lv' := [(5, .int (nI 0)), (3, .int (-4)), (4, .int (7)), (1, .long ((ag nt rl w (nI (2 ^ rl - 1)) sp hm on nd br))), (0, .ref y0)]) [0, 2, 1, 3, 4] rfl ?_
  refine loop_22 ((2 ^ nt - 0) + 1) 0 (-4) 7 (Nat.lt_succ_self _) ?_ ?_
  · omega
  · rfl
theorem c_X4_richest (l : Launch) (E : VE) (y0 : Nat) (yi : Nat) (yk : Nat) (t0 : Nat) (yn : Nat) (yt : Nat) (ys : Nat) (ym : Nat) (se : Nat) (tn : Int32) (l0 : Nat) (lh : Nat) (lb : Nat) (a0 : Nat) (ao : Nat) (aw : Nat) (an : Nat) (ab : Nat) (av : Nat) (nt : Nat) (pp : Nat) (rl : Nat) (hm : Int32) (sp : Int32) (td : Int32) (dt : Int32) (on : Nat → Int32) (wr : Nat → Int32) (nd : Nat → Int32) (br : Nat → Int32) (wo : Nat → Int32) (hf : Nat → Int64) (bg : Nat → Int64) (wh : Int32) (w : Nat → Nat) (h_rl : rl ≤ 8) (h_nt : nt ≤ 6) (h_wr : ∀ k, k < rl → wr k = nI (w k) ∧ w k < 6) : Ct l E yX4_richest cX4_richest 8 (Option.some FieldType.int) 4 90 0 0 [.ref y0, .int (wh)] [(y0, .inr (4, [.ref a0, .ref yi, .ref yk, .ref l0, .ref t0, .ref yn, .ref yt, .int (nI se), .ref ys, .int (tn), .ref ym])), (l0, .inr (0, [.ref lh, .ref lb])), (lh, .inl (E.2.1 2, 8, .inr (.inl (hf)))), (lb, .inl (E.2.1 2, 6, .inr (.inl (bg)))), (a0, .inr (2, [.int (nI nt), .int (nI pp), .int (nI rl), .int (hm), .int (sp), .int (td), .int (dt), .ref ao, .ref aw, .ref an, .ref ab, .ref av])), (ao, .inl (E.2.1 1, 8, .inl (on))), (aw, .inl (E.2.1 1, 8, .inl (wr))), (an, .inl (E.2.1 1, 8, .inl (nd))), (ab, .inl (E.2.1 1, 8, .inl (br))), (av, .inl (E.2.1 1, 6, .inl (wo)))] (RtE2 (some (.int (if wh = 0 ∨ wh = 1 then (if wh = 0 then (ricK (ag nt rl w (nI (2 ^ rl - 1)) sp hm on nd br) (fun s => sumW wo (nI s) nt) (2 ^ nt)).1 else if (ricK (ag nt rl w (nI (2 ^ rl - 1)) sp hm on nd br) (fun s => sumW wo (nI s) nt) (2 ^ nt)).1 = -4 then (ricK (ag nt rl w (nI (2 ^ rl - 1)) sp hm on nd br) (fun s => sumW wo (nI s) nt) (2 ^ nt)).1 else 100 + (ricK (ag nt rl w (nI (2 ^ rl - 1)) sp hm on nd br) (fun s => sumW wo (nI s) nt) (2 ^ nt)).2) else -1))) (fun (hf_ : Nat → Int64) (bg_ : Nat → Int64) => [(y0, .inr (4, [.ref a0, .ref yi, .ref yk, .ref l0, .ref t0, .ref yn, .ref yt, .int (nI se), .ref ys, .int (tn), .ref ym])), (l0, .inr (0, [.ref lh, .ref lb])), (lh, .inl (E.2.1 2, 8, .inr (.inl (hf_)))), (lb, .inl (E.2.1 2, 6, .inr (.inl (bg_)))), (a0, .inr (2, [.int (nI nt), .int (nI pp), .int (nI rl), .int (hm), .int (sp), .int (td), .int (dt), .ref ao, .ref aw, .ref an, .ref ab, .ref av])), (ao, .inl (E.2.1 1, 8, .inl (on))), (aw, .inl (E.2.1 1, 8, .inl (wr))), (an, .inl (E.2.1 1, 8, .inl (nd))), (ab, .inl (E.2.1 1, 8, .inl (br))), (av, .inl (E.2.1 1, 6, .inl (wo)))])) := by
  refine Ct.of (own := RX4) (nm := "richest") (lv := [(0, .ref y0), (1, .int (wh))]) (by decide) rfl rfl (Nat.le_of_ble_eq_true rfl) rfl ?_
  refine v_iload_n (pc := 0) 1 dX4_richest_0 rfl rfl ?_
  refine v_callS (pc := 1) (rest := []) [] lk_531 (c_X4_isYesNo l E wh) dX4_richest_1 rfl rfl (Nat.le_of_ble_eq_true rfl) (by decide) (by decide) rfl (Rt.len rfl) (Rt.go ?_)
  refine v_w (ws' := [(y0, .inr (4, [.ref a0, .ref yi, .ref yk, .ref l0, .ref t0, .ref yn, .ref yt, .int (nI se), .ref ys, .int (tn), .ref ym])), (l0, .inr (0, [.ref lh, .ref lb])), (lh, .inl (E.2.1 2, 8, .inr (.inl (hf)))), (lb, .inl (E.2.1 2, 6, .inr (.inl (bg)))), (a0, .inr (2, [.int (nI nt), .int (nI pp), .int (nI rl), .int (hm), .int (sp), .int (td), .int (dt), .ref ao, .ref aw, .ref an, .ref ab, .ref av])), (ao, .inl (E.2.1 1, 8, .inl (on))), (aw, .inl (E.2.1 1, 8, .inl (wr))), (an, .inl (E.2.1 1, 8, .inl (nd))), (ab, .inl (E.2.1 1, 8, .inl (br))), (av, .inl (E.2.1 1, 6, .inl (wo)))]) rfl ?_
  refine v_st (st' := [.int (if wh = 0 ∨ wh = 1 then 1 else 0)]) rfl ?_
  refine v_ifB_ne (pc := 4) 9 dX4_richest_4 (by decide) (fun c_4 => ?_) (fun c_4 => ?_)
  · skip
    refine v_aload_n (pc := 9) 0 dX4_richest_9 rfl rfl ?_
    refine gf_243 (pc := 10) 0 dX4_richest_10 rfl rfl ?_
    refine v_aload_n (pc := 13) 0 dX4_richest_13 rfl rfl ?_
    refine gf_240 (pc := 14) 0 dX4_richest_14 rfl rfl ?_
    refine v_callV (pc := 17) (rest := []) [1, 2, 3, 4, 5, 6, 7, 8] 1 lk_539 (c_X0_agreeingNow l E l0 lh lb a0 ao aw an ab av nt pp rl hm sp td dt on wr nd br hf bg w (by first | assumption | omega) (by first | assumption | omega) (by first | assumption | omega)) dX4_richest_17 rfl rfl (Nat.le_of_ble_eq_true rfl) (by decide) rfl rfl rfl (by decide) rfl (RtE2.len (fun _ _ => rfl)) (RtE2.go (fun hf_17 bg_17 => ?_))
    refine v_w (ws' := [(y0, .inr (4, [.ref a0, .ref yi, .ref yk, .ref l0, .ref t0, .ref yn, .ref yt, .int (nI se), .ref ys, .int (tn), .ref ym])), (l0, .inr (0, [.ref lh, .ref lb])), (lh, .inl (E.2.1 2, 8, .inr (.inl (hf_17)))), (lb, .inl (E.2.1 2, 6, .inr (.inl (bg_17)))), (a0, .inr (2, [.int (nI nt), .int (nI pp), .int (nI rl), .int (hm), .int (sp), .int (td), .int (dt), .ref ao, .ref aw, .ref an, .ref ab, .ref av])), (ao, .inl (E.2.1 1, 8, .inl (on))), (aw, .inl (E.2.1 1, 8, .inl (wr))), (an, .inl (E.2.1 1, 8, .inl (nd))), (ab, .inl (E.2.1 1, 8, .inl (br))), (av, .inl (E.2.1 1, 6, .inl (wo)))]) rfl ?_
    refine v_st (st' := [.long (ag nt rl w (nI (2 ^ rl - 1)) sp hm on nd br)]) rfl ?_
    refine v_lstore_n (pc := 20) (lv' := [(2, .long (ag nt rl w (nI (2 ^ rl - 1)) sp hm on nd br)), (0, .ref y0), (1, .int (wh))]) dX4_richest_20 rfl (by decide) rfl ?_
    have h64 := p64 h_nt
    have h0p := p1 nt
    refine v_bipush (pc := 21) (v := -4) dX4_richest_21 (by decide) ?_
    refine v_istore (pc := 23) (lv' := [(4, .int (-4)), (2, .long (ag nt rl w (nI (2 ^ rl - 1)) sp hm on nd br)), (0, .ref y0), (1, .int (wh))]) dX4_richest_23 (by decide) rfl ?_
    refine v_iconst (pc := 25) (v := 0) dX4_richest_25 (by decide) ?_
    refine v_istore (pc := 26) (lv' := [(5, .int (0)), (4, .int (-4)), (2, .long (ag nt rl w (nI (2 ^ rl - 1)) sp hm on nd br)), (0, .ref y0), (1, .int (wh))]) dX4_richest_26 (by decide) rfl ?_
    refine v_iconst (pc := 28) (v := 0) dX4_richest_28 (by decide) ?_
    refine v_istore (pc := 29) (lv' := [(6, .int (0)), (5, .int (0)), (4, .int (-4)), (2, .long (ag nt rl w (nI (2 ^ rl - 1)) sp hm on nd br)), (0, .ref y0), (1, .int (wh))]) dX4_richest_29 (by decide) rfl ?_
    have loop_31 : ∀ (D_31 : Nat) (i : Nat) (b : Int32) (sm : Int32), 2 ^ nt - i < D_31 → (i ≤ 2 ^ nt) → ((b, sm) = ricK (ag nt rl w (nI (2 ^ rl - 1)) sp hm on nd br) (fun s => sumW wo (nI s) nt) i) → V l E RX4 cX4_richest 8 (Option.some FieldType.int) "richest" ({ frames := 4, cells := 0, slots := 0, locals := 90 }) [(y0, .inr (4, [.ref a0, .ref yi, .ref yk, .ref l0, .ref t0, .ref yn, .ref yt, .int (nI se), .ref ys, .int (tn), .ref ym])), (l0, .inr (0, [.ref lh, .ref lb])), (lh, .inl (E.2.1 2, 8, .inr (.inl (hf)))), (lb, .inl (E.2.1 2, 6, .inr (.inl (bg)))), (a0, .inr (2, [.int (nI nt), .int (nI pp), .int (nI rl), .int (hm), .int (sp), .int (td), .int (dt), .ref ao, .ref aw, .ref an, .ref ab, .ref av])), (ao, .inl (E.2.1 1, 8, .inl (on))), (aw, .inl (E.2.1 1, 8, .inl (wr))), (an, .inl (E.2.1 1, 8, .inl (nd))), (ab, .inl (E.2.1 1, 8, .inl (br))), (av, .inl (E.2.1 1, 6, .inl (wo)))] 0 0 (RtE2 (some (.int (if wh = 0 ∨ wh = 1 then (if wh = 0 then (ricK (ag nt rl w (nI (2 ^ rl - 1)) sp hm on nd br) (fun s => sumW wo (nI s) nt) (2 ^ nt)).1 else if (ricK (ag nt rl w (nI (2 ^ rl - 1)) sp hm on nd br) (fun s => sumW wo (nI s) nt) (2 ^ nt)).1 = -4 then (ricK (ag nt rl w (nI (2 ^ rl - 1)) sp hm on nd br) (fun s => sumW wo (nI s) nt) (2 ^ nt)).1 else 100 + (ricK (ag nt rl w (nI (2 ^ rl - 1)) sp hm on nd br) (fun s => sumW wo (nI s) nt) (2 ^ nt)).2) else -1))) (fun (hf_ : Nat → Int64) (bg_ : Nat → Int64) => [(y0, .inr (4, [.ref a0, .ref yi, .ref yk, .ref l0, .ref t0, .ref yn, .ref yt, .int (nI se), .ref ys, .int (tn), .ref ym])), (l0, .inr (0, [.ref lh, .ref lb])), (lh, .inl (E.2.1 2, 8, .inr (.inl (hf_)))), (lb, .inl (E.2.1 2, 6, .inr (.inl (bg_)))), (a0, .inr (2, [.int (nI nt), .int (nI pp), .int (nI rl), .int (hm), .int (sp), .int (td), .int (dt), .ref ao, .ref aw, .ref an, .ref ab, .ref av])), (ao, .inl (E.2.1 1, 8, .inl (on))), (aw, .inl (E.2.1 1, 8, .inl (wr))), (an, .inl (E.2.1 1, 8, .inl (nd))), (ab, .inl (E.2.1 1, 8, .inl (br))), (av, .inl (E.2.1 1, 6, .inl (wo)))])) 0 0 31 [(6, .int (nI i)), (4, .int (b)), (5, .int (sm)), (2, .long ((ag nt rl w (nI (2 ^ rl - 1)) sp hm on nd br))), (0, .ref y0), (1, .int (wh))] [] [(y0, .inr (4, [.ref a0, .ref yi, .ref yk, .ref l0, .ref t0, .ref yn, .ref yt, .int (nI se), .ref ys, .int (tn), .ref ym])), (l0, .inr (0, [.ref lh, .ref lb])), (lh, .inl (E.2.1 2, 8, .inr (.inl (hf_17)))), (lb, .inl (E.2.1 2, 6, .inr (.inl (bg_17)))), (a0, .inr (2, [.int (nI nt), .int (nI pp), .int (nI rl), .int (hm), .int (sp), .int (td), .int (dt), .ref ao, .ref aw, .ref an, .ref ab, .ref av])), (ao, .inl (E.2.1 1, 8, .inl (on))), (aw, .inl (E.2.1 1, 8, .inl (wr))), (an, .inl (E.2.1 1, 8, .inl (nd))), (ab, .inl (E.2.1 1, 8, .inl (br))), (av, .inl (E.2.1 1, 6, .inl (wo)))] := by
      intro D_31
      induction D_31 with
      | zero => intro i b sm h; exact absurd h (Nat.not_lt_zero _)
      | succ D_31 ih_31 =>
        intro i b sm hmu_31 h_31_0 h_31_1
        refine v_iload (pc := 31) 0 dX4_richest_31 rfl ?_
        refine v_aload_n (pc := 33) 4 dX4_richest_33 rfl rfl ?_
        refine gf_240 (pc := 34) 0 dX4_richest_34 rfl rfl ?_
        refine v_callV (pc := 37) (rest := [.int (nI i)]) [4] 4 lk_616 (c_X2_allNotes l E a0 ao aw an ab av nt pp rl hm sp td dt (by first | assumption | omega)) dX4_richest_37 rfl rfl (Nat.le_of_ble_eq_true rfl) (by decide) rfl rfl rfl (by decide) rfl (Rt.len rfl) (Rt.go ?_)
        refine v_w (ws' := [(y0, .inr (4, [.ref a0, .ref yi, .ref yk, .ref l0, .ref t0, .ref yn, .ref yt, .int (nI se), .ref ys, .int (tn), .ref ym])), (l0, .inr (0, [.ref lh, .ref lb])), (lh, .inl (E.2.1 2, 8, .inr (.inl (hf_17)))), (lb, .inl (E.2.1 2, 6, .inr (.inl (bg_17)))), (a0, .inr (2, [.int (nI nt), .int (nI pp), .int (nI rl), .int (hm), .int (sp), .int (td), .int (dt), .ref ao, .ref aw, .ref an, .ref ab, .ref av])), (ao, .inl (E.2.1 1, 8, .inl (on))), (aw, .inl (E.2.1 1, 8, .inl (wr))), (an, .inl (E.2.1 1, 8, .inl (nd))), (ab, .inl (E.2.1 1, 8, .inl (br))), (av, .inl (E.2.1 1, 6, .inl (wo)))]) rfl ?_
        refine v_st (st' := [.int (nI (2 ^ nt - 1)), .int (nI i)]) rfl ?_
        refine v_cmpN_gt (pc := 40) (a := i) (b := 2 ^ nt - 1) 91 dX4_richest_40 (by decide) (by omega) (by omega) (fun c_40 => ?_) (fun c_40 => ?_)
        · skip
          refine v_iload_n (pc := 91) 5 dX4_richest_91 rfl rfl ?_
          refine v_if_eq (pc := 92) 102 dX4_richest_92 (by decide) (fun c_92 => ?_) (fun c_92 => ?_)
          · skip
            refine v_iload (pc := 102) 1 dX4_richest_102 rfl ?_
            refine v_goto (pc := 104) 112 dX4_richest_104 (by decide) ?_
            refine v_iret (pc := 112) dX4_richest_112 rfl ⟨rfl, rfl⟩ (RtE2.i (hf_17) (bg_17) ?_ ?_)
            · skip
              obtain rfl : i = 2 ^ nt := by omega
              rw [if_pos c_4, ← h_31_1, if_pos c_92]
            · skip
              rfl
          · skip
            refine v_iload (pc := 95) 1 dX4_richest_95 rfl ?_
            refine v_bipush (pc := 97) (v := -4) dX4_richest_97 (by decide) ?_
            refine v_icmp_ne (pc := 99) 107 dX4_richest_99 (by decide) (fun c_99 => ?_) (fun c_99 => ?_)
            · skip
              refine v_bipush (pc := 107) (v := 100) dX4_richest_107 (by decide) ?_
              refine v_iload (pc := 109) 2 dX4_richest_109 rfl ?_
              refine v_iadd (pc := 111) dX4_richest_111 ?_
              refine v_iret (pc := 112) dX4_richest_112 rfl ⟨rfl, rfl⟩ (RtE2.i (hf_17) (bg_17) ?_ ?_)
              · skip
                obtain rfl : i = 2 ^ nt := by omega
                rw [if_pos c_4, ← h_31_1, if_neg c_92, if_neg c_99]
              · skip
                rfl
            · skip
              refine v_iload (pc := 102) 1 dX4_richest_102 rfl ?_
              refine v_goto (pc := 104) 112 dX4_richest_104 (by decide) ?_
              refine v_iret (pc := 112) dX4_richest_112 rfl ⟨rfl, rfl⟩ (RtE2.i (hf_17) (bg_17) ?_ ?_)
              · skip
                obtain rfl : i = 2 ^ nt := by omega
                rw [if_pos c_4, ← h_31_1, if_neg c_92, if_pos c_99]
              · skip
                rfl
        · skip
          refine v_iload (pc := 43) 0 dX4_richest_43 rfl ?_
          refine v_lload_n (pc := 45) 3 dX4_richest_45 rfl rfl ?_
          refine v_callS (pc := 46) (rest := []) [] lk_574 (c_X4_isAmong l E (nI i) (ag nt rl w (nI (2 ^ rl - 1)) sp hm on nd br)) dX4_richest_46 rfl rfl (Nat.le_of_ble_eq_true rfl) (by decide) (by decide) rfl (Rt.len rfl) (Rt.go ?_)
          refine v_w (ws' := [(y0, .inr (4, [.ref a0, .ref yi, .ref yk, .ref l0, .ref t0, .ref yn, .ref yt, .int (nI se), .ref ys, .int (tn), .ref ym])), (l0, .inr (0, [.ref lh, .ref lb])), (lh, .inl (E.2.1 2, 8, .inr (.inl (hf_17)))), (lb, .inl (E.2.1 2, 6, .inr (.inl (bg_17)))), (a0, .inr (2, [.int (nI nt), .int (nI pp), .int (nI rl), .int (hm), .int (sp), .int (td), .int (dt), .ref ao, .ref aw, .ref an, .ref ab, .ref av])), (ao, .inl (E.2.1 1, 8, .inl (on))), (aw, .inl (E.2.1 1, 8, .inl (wr))), (an, .inl (E.2.1 1, 8, .inl (nd))), (ab, .inl (E.2.1 1, 8, .inl (br))), (av, .inl (E.2.1 1, 6, .inl (wo)))]) rfl ?_
          refine v_st (st' := [.int (if isIn (nI i) (ag nt rl w (nI (2 ^ rl - 1)) sp hm on nd br) then 1 else 0)]) rfl ?_
          refine v_ifB_eq (pc := 49) 85 dX4_richest_49 (by decide) (fun c_49 => ?_) (fun c_49 => ?_)
          · skip
            refine v_iinc (pc := 85) (v := nI (i + 1)) (lv' := [(6, .int (nI (i + 1))), (4, .int (b)), (5, .int (sm)), (2, .long ((ag nt rl w (nI (2 ^ rl - 1)) sp hm on nd br))), (0, .ref y0), (1, .int (wh))]) 0 dX4_richest_85 rfl (nI_inc (i) 1) (by decide) rfl ?_
            refine v_goto (pc := 88) 31 dX4_richest_88 (by decide) ?_
            refine v_lv (lv' := [(6, .int (nI (i + 1))), (4, .int (b)), (5, .int (sm)), (2, .long ((ag nt rl w (nI (2 ^ rl - 1)) sp hm on nd br))), (0, .ref y0), (1, .int (wh))]) [0, 1, 2, 3, 4, 5] rfl ?_
            refine ih_31 (i + 1) b sm (by omega) ?_ ?_
            · omega
            · simp only [ricK]; rw [← h_31_1, if_neg (fun q => c_49 q.1)]
          · skip
            refine v_aload_n (pc := 52) 4 dX4_richest_52 rfl rfl ?_
            refine gf_240 (pc := 53) 0 dX4_richest_53 rfl rfl ?_
            refine v_iload (pc := 56) 0 dX4_richest_56 rfl ?_
            refine v_callV (pc := 58) (rest := []) [4, 9] 4 lk_658 (c_X2_sumOfWorths l E a0 ao aw an ab av nt pp rl hm sp td dt wo (nI i) (by first | assumption | omega)) dX4_richest_58 rfl rfl (Nat.le_of_ble_eq_true rfl) (by decide) rfl rfl rfl (by decide) rfl (Rt.len rfl) (Rt.go ?_)
            refine v_w (ws' := [(y0, .inr (4, [.ref a0, .ref yi, .ref yk, .ref l0, .ref t0, .ref yn, .ref yt, .int (nI se), .ref ys, .int (tn), .ref ym])), (l0, .inr (0, [.ref lh, .ref lb])), (lh, .inl (E.2.1 2, 8, .inr (.inl (hf_17)))), (lb, .inl (E.2.1 2, 6, .inr (.inl (bg_17)))), (a0, .inr (2, [.int (nI nt), .int (nI pp), .int (nI rl), .int (hm), .int (sp), .int (td), .int (dt), .ref ao, .ref aw, .ref an, .ref ab, .ref av])), (ao, .inl (E.2.1 1, 8, .inl (on))), (aw, .inl (E.2.1 1, 8, .inl (wr))), (an, .inl (E.2.1 1, 8, .inl (nd))), (ab, .inl (E.2.1 1, 8, .inl (br))), (av, .inl (E.2.1 1, 6, .inl (wo)))]) rfl ?_
            refine v_st (st' := [.int (sumW wo (nI i) nt)]) rfl ?_
            refine v_istore (pc := 61) (lv' := [(7, .int (sumW wo (nI i) nt)), (6, .int (nI i)), (4, .int (b)), (5, .int (sm)), (2, .long ((ag nt rl w (nI (2 ^ rl - 1)) sp hm on nd br))), (0, .ref y0), (1, .int (wh))]) dX4_richest_61 (by decide) rfl ?_
            refine v_iload (pc := 63) 2 dX4_richest_63 rfl ?_
            refine v_bipush (pc := 65) (v := -4) dX4_richest_65 (by decide) ?_
            refine v_icmp_eq (pc := 67) 77 dX4_richest_67 (by decide) (fun c_67 => ?_) (fun c_67 => ?_)
            · skip
              refine v_iload (pc := 77) 1 dX4_richest_77 rfl ?_
              refine v_istore (pc := 79) (lv' := [(4, .int (nI i)), (7, .int (sumW wo (nI i) nt)), (6, .int (nI i)), (5, .int (sm)), (2, .long ((ag nt rl w (nI (2 ^ rl - 1)) sp hm on nd br))), (0, .ref y0), (1, .int (wh))]) dX4_richest_79 (by decide) rfl ?_
              refine v_iload (pc := 81) 1 dX4_richest_81 rfl ?_
              refine v_istore (pc := 83) (lv' := [(5, .int (sumW wo (nI i) nt)), (4, .int (nI i)), (7, .int (sumW wo (nI i) nt)), (6, .int (nI i)), (2, .long ((ag nt rl w (nI (2 ^ rl - 1)) sp hm on nd br))), (0, .ref y0), (1, .int (wh))]) dX4_richest_83 (by decide) rfl ?_
              refine v_iinc (pc := 85) (v := nI (i + 1)) (lv' := [(6, .int (nI (i + 1))), (5, .int (sumW wo (nI i) nt)), (4, .int (nI i)), (7, .int (sumW wo (nI i) nt)), (2, .long ((ag nt rl w (nI (2 ^ rl - 1)) sp hm on nd br))), (0, .ref y0), (1, .int (wh))]) 3 dX4_richest_85 rfl (nI_inc (i) 1) (by decide) rfl ?_
              refine v_goto (pc := 88) 31 dX4_richest_88 (by decide) ?_
              refine v_lv (lv' := [(6, .int (nI (i + 1))), (4, .int (nI i)), (5, .int (sumW wo (nI i) nt)), (2, .long ((ag nt rl w (nI (2 ^ rl - 1)) sp hm on nd br))), (0, .ref y0), (1, .int (wh))]) [0, 2, 1, 4, 5, 6] rfl ?_
              refine ih_31 (i + 1) (nI i) (sumW wo (nI i) nt) (by omega) ?_ ?_
              · omega
              · simp only [ricK]; rw [← h_31_1, if_pos ⟨c_49, Or.inl c_67⟩]
            · skip
              refine v_iload (pc := 70) 0 dX4_richest_70 rfl ?_
              refine v_iload (pc := 72) 3 dX4_richest_72 rfl ?_
              refine v_icmp_le (pc := 74) 85 dX4_richest_74 (by decide) (fun c_74 => ?_) (fun c_74 => ?_)
              · skip
                refine v_iinc (pc := 85) (v := nI (i + 1)) (lv' := [(6, .int (nI (i + 1))), (7, .int (sumW wo (nI i) nt)), (4, .int (b)), (5, .int (sm)), (2, .long ((ag nt rl w (nI (2 ^ rl - 1)) sp hm on nd br))), (0, .ref y0), (1, .int (wh))]) 1 dX4_richest_85 rfl (nI_inc (i) 1) (by decide) rfl ?_
                refine v_goto (pc := 88) 31 dX4_richest_88 (by decide) ?_
                refine v_lv (lv' := [(6, .int (nI (i + 1))), (4, .int (b)), (5, .int (sm)), (2, .long ((ag nt rl w (nI (2 ^ rl - 1)) sp hm on nd br))), (0, .ref y0), (1, .int (wh))]) [0, 2, 3, 4, 5, 6] rfl ?_
                refine ih_31 (i + 1) b sm (by omega) ?_ ?_
                · omega
                · simp only [ricK]; rw [← h_31_1, if_neg (fun q => q.2.elim c_67 (fun z => z c_74))]
              · skip
                refine v_iload (pc := 77) 1 dX4_richest_77 rfl ?_
                refine v_istore (pc := 79) (lv' := [(4, .int (nI i)), (7, .int (sumW wo (nI i) nt)), (6, .int (nI i)), (5, .int (sm)), (2, .long ((ag nt rl w (nI (2 ^ rl - 1)) sp hm on nd br))), (0, .ref y0), (1, .int (wh))]) dX4_richest_79 (by decide) rfl ?_
                refine v_iload (pc := 81) 1 dX4_richest_81 rfl ?_
                refine v_istore (pc := 83) (lv' := [(5, .int (sumW wo (nI i) nt)), (4, .int (nI i)), (7, .int (sumW wo (nI i) nt)), (6, .int (nI i)), (2, .long ((ag nt rl w (nI (2 ^ rl - 1)) sp hm on nd br))), (0, .ref y0), (1, .int (wh))]) dX4_richest_83 (by decide) rfl ?_
                refine v_iinc (pc := 85) (v := nI (i + 1)) (lv' := [(6, .int (nI (i + 1))), (5, .int (sumW wo (nI i) nt)), (4, .int (nI i)), (7, .int (sumW wo (nI i) nt)), (2, .long ((ag nt rl w (nI (2 ^ rl - 1)) sp hm on nd br))), (0, .ref y0), (1, .int (wh))]) 3 dX4_richest_85 rfl (nI_inc (i) 1) (by decide) rfl ?_
                refine v_goto (pc := 88) 31 dX4_richest_88 (by decide) ?_
                refine v_lv (lv' := [(6, .int (nI (i + 1))), (4, .int (nI i)), (5, .int (sumW wo (nI i) nt)), (2, .long ((ag nt rl w (nI (2 ^ rl - 1)) sp hm on nd br))), (0, .ref y0), (1, .int (wh))]) [0, 2, 1, 4, 5, 6] rfl ?_
                refine ih_31 (i + 1) (nI i) (sumW wo (nI i) nt) (by omega) ?_ ?_
                · omega
                · simp only [ricK]; rw [← h_31_1, if_pos ⟨c_49, Or.inr c_74⟩]
    refine v_lv (lv' := [(6, .int (nI 0)), (4, .int (-4)), (5, .int (0)), (2, .long ((ag nt rl w (nI (2 ^ rl - 1)) sp hm on nd br))), (0, .ref y0), (1, .int (wh))]) [0, 2, 1, 3, 4, 5] rfl ?_
    refine loop_31 ((2 ^ nt - 0) + 1) 0 (-4) 0 (Nat.lt_succ_self _) ?_ ?_
    · omega
    · rfl
  · skip
    refine v_iconst (pc := 7) (v := -1) dX4_richest_7 (by decide) ?_
    refine v_iret (pc := 8) dX4_richest_8 rfl ⟨rfl, rfl⟩ (RtE2.i (hf) (bg) ?_ ?_)
    · skip
      first | simp only [if_neg c_4] | rfl
    · skip
      first | simp only [if_neg c_4] | rfl
theorem c_X4_expected (l : Launch) (E : VE) (y0 : Nat) (yi : Nat) (yk : Nat) (t0 : Nat) (yn : Nat) (yt : Nat) (ys : Nat) (ym : Nat) (se : Nat) (tn : Int32) (l0 : Nat) (lh : Nat) (lb : Nat) (a0 : Nat) (ao : Nat) (aw : Nat) (an : Nat) (ab : Nat) (av : Nat) (nt : Nat) (pp : Nat) (rl : Nat) (hm : Int32) (sp : Int32) (td : Int32) (dt : Int32) (on : Nat → Int32) (wr : Nat → Int32) (nd : Nat → Int32) (br : Nat → Int32) (hf : Nat → Int64) (bg : Nat → Int64) (x : Int32) (kd : Int32) (wh : Int32) (n : Nat) (w : Nat → Nat) (h_rl : rl ≤ 8) (h_nt : nt ≤ 6) (h_wr : ∀ k, k < rl → wr k = nI (w k) ∧ w k < 6) (h_n : n < 6) : Ct l E yX4_expected cX4_expected 10 (Option.some FieldType.long) 3 69 0 0 [.ref y0, .int (x), .int (kd), .int (nI n), .int (wh)] [(y0, .inr (4, [.ref a0, .ref yi, .ref yk, .ref l0, .ref t0, .ref yn, .ref yt, .int (nI se), .ref ys, .int (tn), .ref ym])), (l0, .inr (0, [.ref lh, .ref lb])), (lh, .inl (E.2.1 2, 8, .inr (.inl (hf)))), (lb, .inl (E.2.1 2, 6, .inr (.inl (bg)))), (a0, .inr (2, [.int (nI nt), .int (nI pp), .int (nI rl), .int (hm), .int (sp), .int (td), .int (dt), .ref ao, .ref aw, .ref an, .ref ab, .ref av])), (ao, .inl (E.2.1 1, 8, .inl (on))), (aw, .inl (E.2.1 1, 8, .inl (wr))), (an, .inl (E.2.1 1, 8, .inl (nd))), (ab, .inl (E.2.1 1, 8, .inl (br)))] (RtE2 (some (.long (expR nt rl w sp hm on nd br x kd n wh))) (fun (hf_ : Nat → Int64) (bg_ : Nat → Int64) => [(y0, .inr (4, [.ref a0, .ref yi, .ref yk, .ref l0, .ref t0, .ref yn, .ref yt, .int (nI se), .ref ys, .int (tn), .ref ym])), (l0, .inr (0, [.ref lh, .ref lb])), (lh, .inl (E.2.1 2, 8, .inr (.inl (hf_)))), (lb, .inl (E.2.1 2, 6, .inr (.inl (bg_)))), (a0, .inr (2, [.int (nI nt), .int (nI pp), .int (nI rl), .int (hm), .int (sp), .int (td), .int (dt), .ref ao, .ref aw, .ref an, .ref ab, .ref av])), (ao, .inl (E.2.1 1, 8, .inl (on))), (aw, .inl (E.2.1 1, 8, .inl (wr))), (an, .inl (E.2.1 1, 8, .inl (nd))), (ab, .inl (E.2.1 1, 8, .inl (br)))])) := by
  refine Ct.of (own := RX4) (nm := "expected") (lv := [(0, .ref y0), (1, .int (x)), (2, .int (kd)), (3, .int (nI n)), (4, .int (wh))]) (by decide) rfl rfl (Nat.le_of_ble_eq_true rfl) rfl ?_
  refine v_iload_n (pc := 0) 1 dX4_expected_0 rfl rfl ?_
  refine v_if_lt (pc := 1) 18 dX4_expected_1 (by decide) (fun c_1 => ?_) (fun c_1 => ?_)
  · skip
    refine v_ldc2 (pc := 18) dX4_expected_18 tb_585 ?_
    refine v_lret (pc := 21) dX4_expected_21 rfl ⟨rfl, rfl⟩ (RtE2.l (hf) (bg) ?_ ?_)
    · skip
      unfold expR; rw [if_pos c_1]
    · skip
      rfl
  · skip
    refine v_iload_n (pc := 4) 1 dX4_expected_4 rfl rfl ?_
    refine v_bipush (pc := 5) (v := 10) dX4_expected_5 (by decide) ?_
    refine v_icmp_gt (pc := 7) 18 dX4_expected_7 (by decide) (fun c_7 => ?_) (fun c_7 => ?_)
    · skip
      refine v_ldc2 (pc := 18) dX4_expected_18 tb_585 ?_
      refine v_lret (pc := 21) dX4_expected_21 rfl ⟨rfl, rfl⟩ (RtE2.l (hf) (bg) ?_ ?_)
      · skip
        unfold expR; rw [if_neg c_1, if_pos c_7]
      · skip
        rfl
    · skip
      refine v_iload (pc := 10) 4 dX4_expected_10 rfl ?_
      refine v_callS (pc := 12) (rest := []) [] lk_531 (c_X4_isYesNo l E wh) dX4_expected_12 rfl rfl (Nat.le_of_ble_eq_true rfl) (by decide) (by decide) rfl (Rt.len rfl) (Rt.go ?_)
      refine v_w (ws' := [(y0, .inr (4, [.ref a0, .ref yi, .ref yk, .ref l0, .ref t0, .ref yn, .ref yt, .int (nI se), .ref ys, .int (tn), .ref ym])), (l0, .inr (0, [.ref lh, .ref lb])), (lh, .inl (E.2.1 2, 8, .inr (.inl (hf)))), (lb, .inl (E.2.1 2, 6, .inr (.inl (bg)))), (a0, .inr (2, [.int (nI nt), .int (nI pp), .int (nI rl), .int (hm), .int (sp), .int (td), .int (dt), .ref ao, .ref aw, .ref an, .ref ab, .ref av])), (ao, .inl (E.2.1 1, 8, .inl (on))), (aw, .inl (E.2.1 1, 8, .inl (wr))), (an, .inl (E.2.1 1, 8, .inl (nd))), (ab, .inl (E.2.1 1, 8, .inl (br)))]) rfl ?_
      refine v_st (st' := [.int (if wh = 0 ∨ wh = 1 then 1 else 0)]) rfl ?_
      refine v_ifB_ne (pc := 15) 22 dX4_expected_15 (by decide) (fun c_15 => ?_) (fun c_15 => ?_)
      · skip
        have h256 := pow_rl h_rl
        have h0p := p1 rl
        obtain ⟨v, hv, rfl⟩ := le_ex (b := 10) c_1 c_7 (by decide)
        have hvc : (nI v).toNatClampNeg = v := nI_clamp (by omega)
        have hfb : ∀ c, expF nt rl w sp hm on nd br kd n c < 128 := fun c => (meas_N _ _ _).2
        refine v_aload_n (pc := 22) 0 dX4_expected_22 rfl rfl ?_
        refine gf_243 (pc := 23) 0 dX4_expected_23 rfl rfl ?_
        refine v_aload_n (pc := 26) 0 dX4_expected_26 rfl rfl ?_
        refine gf_240 (pc := 27) 0 dX4_expected_27 rfl rfl ?_
        refine v_aload_n (pc := 30) 0 dX4_expected_30 rfl rfl ?_
        refine gf_240 (pc := 31) 0 dX4_expected_31 rfl rfl ?_
        refine gf_100 (pc := 34) 4 dX4_expected_34 rfl rfl ?_
        refine v_callV (pc := 37) (rest := []) [1, 2, 4, 5, 7, 8] 1 lk_594 (c_X0_open l E l0 lh lb a0 ao aw an ab av nt pp rl hm sp td dt on nd br hm hf (by first | assumption | omega)) dX4_expected_37 rfl rfl (Nat.le_of_ble_eq_true rfl) (by decide) rfl rfl rfl (by decide) rfl (Rt.len rfl) (Rt.go ?_)
        refine v_w (ws' := [(y0, .inr (4, [.ref a0, .ref yi, .ref yk, .ref l0, .ref t0, .ref yn, .ref yt, .int (nI se), .ref ys, .int (tn), .ref ym])), (l0, .inr (0, [.ref lh, .ref lb])), (lh, .inl (E.2.1 2, 8, .inr (.inl (openF hm on nd br hf rl)))), (lb, .inl (E.2.1 2, 6, .inr (.inl (bg)))), (a0, .inr (2, [.int (nI nt), .int (nI pp), .int (nI rl), .int (hm), .int (sp), .int (td), .int (dt), .ref ao, .ref aw, .ref an, .ref ab, .ref av])), (ao, .inl (E.2.1 1, 8, .inl (on))), (aw, .inl (E.2.1 1, 8, .inl (wr))), (an, .inl (E.2.1 1, 8, .inl (nd))), (ab, .inl (E.2.1 1, 8, .inl (br)))]) rfl ?_
        refine v_st (st' := []) rfl ?_
        refine v_lconst (pc := 40) (v := 0) dX4_expected_40 (by decide) ?_
        refine v_lstore (pc := 41) (lv' := [(5, .long (0)), (0, .ref y0), (1, .int ((nI v))), (2, .int (kd)), (3, .int (nI n)), (4, .int (wh))]) dX4_expected_41 (by decide) rfl ?_
        refine v_iconst (pc := 43) (v := 0) dX4_expected_43 (by decide) ?_
        refine v_istore (pc := 44) (lv' := [(7, .int (0)), (5, .long (0)), (0, .ref y0), (1, .int ((nI v))), (2, .int (kd)), (3, .int (nI n)), (4, .int (wh))]) dX4_expected_44 (by decide) rfl ?_
        have loop_46 : ∀ (D_46 : Nat) (i : Nat) (acc : Int64) (gb : Nat → Int64), 2 ^ rl - i < D_46 → (i ≤ 2 ^ rl) → (acc = lN (expN v rl (expF nt rl w sp hm on nd br kd n) i)) → V l E RX4 cX4_expected 10 (Option.some FieldType.long) "expected" ({ frames := 3, cells := 0, slots := 0, locals := 69 }) [(y0, .inr (4, [.ref a0, .ref yi, .ref yk, .ref l0, .ref t0, .ref yn, .ref yt, .int (nI se), .ref ys, .int (tn), .ref ym])), (l0, .inr (0, [.ref lh, .ref lb])), (lh, .inl (E.2.1 2, 8, .inr (.inl (hf)))), (lb, .inl (E.2.1 2, 6, .inr (.inl (bg)))), (a0, .inr (2, [.int (nI nt), .int (nI pp), .int (nI rl), .int (hm), .int (sp), .int (td), .int (dt), .ref ao, .ref aw, .ref an, .ref ab, .ref av])), (ao, .inl (E.2.1 1, 8, .inl (on))), (aw, .inl (E.2.1 1, 8, .inl (wr))), (an, .inl (E.2.1 1, 8, .inl (nd))), (ab, .inl (E.2.1 1, 8, .inl (br)))] 0 0 (RtE2 (some (.long (expR nt rl w sp hm on nd br (nI v) kd n wh))) (fun (hf_ : Nat → Int64) (bg_ : Nat → Int64) => [(y0, .inr (4, [.ref a0, .ref yi, .ref yk, .ref l0, .ref t0, .ref yn, .ref yt, .int (nI se), .ref ys, .int (tn), .ref ym])), (l0, .inr (0, [.ref lh, .ref lb])), (lh, .inl (E.2.1 2, 8, .inr (.inl (hf_)))), (lb, .inl (E.2.1 2, 6, .inr (.inl (bg_)))), (a0, .inr (2, [.int (nI nt), .int (nI pp), .int (nI rl), .int (hm), .int (sp), .int (td), .int (dt), .ref ao, .ref aw, .ref an, .ref ab, .ref av])), (ao, .inl (E.2.1 1, 8, .inl (on))), (aw, .inl (E.2.1 1, 8, .inl (wr))), (an, .inl (E.2.1 1, 8, .inl (nd))), (ab, .inl (E.2.1 1, 8, .inl (br)))])) 0 0 46 [(7, .int (nI i)), (5, .long (acc)), (0, .ref y0), (1, .int (nI v)), (2, .int (kd)), (3, .int (nI n)), (4, .int (wh))] [] [(y0, .inr (4, [.ref a0, .ref yi, .ref yk, .ref l0, .ref t0, .ref yn, .ref yt, .int (nI se), .ref ys, .int (tn), .ref ym])), (l0, .inr (0, [.ref lh, .ref lb])), (lh, .inl (E.2.1 2, 8, .inr (.inl (openF hm on nd br hf rl)))), (lb, .inl (E.2.1 2, 6, .inr (.inl (gb)))), (a0, .inr (2, [.int (nI nt), .int (nI pp), .int (nI rl), .int (hm), .int (sp), .int (td), .int (dt), .ref ao, .ref aw, .ref an, .ref ab, .ref av])), (ao, .inl (E.2.1 1, 8, .inl (on))), (aw, .inl (E.2.1 1, 8, .inl (wr))), (an, .inl (E.2.1 1, 8, .inl (nd))), (ab, .inl (E.2.1 1, 8, .inl (br)))] := by
          intro D_46
          induction D_46 with
          | zero => intro i acc gb h; exact absurd h (Nat.not_lt_zero _)
          | succ D_46 ih_46 =>
            intro i acc gb hmu_46 h_46_0 h_46_1
            refine v_iload (pc := 46) 0 dX4_expected_46 rfl ?_
            refine v_aload_n (pc := 48) 2 dX4_expected_48 rfl rfl ?_
            refine gf_240 (pc := 49) 0 dX4_expected_49 rfl rfl ?_
            refine v_callV (pc := 52) (rest := [.int (nI i)]) [4] 4 lk_642 (c_X2_allRules l E a0 ao aw an ab av nt pp rl hm sp td dt (by first | assumption | omega)) dX4_expected_52 rfl rfl (Nat.le_of_ble_eq_true rfl) (by decide) rfl rfl rfl (by decide) rfl (Rt.len rfl) (Rt.go ?_)
            refine v_w (ws' := [(y0, .inr (4, [.ref a0, .ref yi, .ref yk, .ref l0, .ref t0, .ref yn, .ref yt, .int (nI se), .ref ys, .int (tn), .ref ym])), (l0, .inr (0, [.ref lh, .ref lb])), (lh, .inl (E.2.1 2, 8, .inr (.inl (openF hm on nd br hf rl)))), (lb, .inl (E.2.1 2, 6, .inr (.inl (gb)))), (a0, .inr (2, [.int (nI nt), .int (nI pp), .int (nI rl), .int (hm), .int (sp), .int (td), .int (dt), .ref ao, .ref aw, .ref an, .ref ab, .ref av])), (ao, .inl (E.2.1 1, 8, .inl (on))), (aw, .inl (E.2.1 1, 8, .inl (wr))), (an, .inl (E.2.1 1, 8, .inl (nd))), (ab, .inl (E.2.1 1, 8, .inl (br)))]) rfl ?_
            refine v_st (st' := [.int (nI (2 ^ rl - 1)), .int (nI i)]) rfl ?_
            refine v_cmpN_gt (pc := 55) (a := i) (b := 2 ^ rl - 1) 114 dX4_expected_55 (by decide) (by omega) (by omega) (fun c_55 => ?_) (fun c_55 => ?_)
            · skip
              obtain rfl : i = 2 ^ rl := by omega
              subst h_46_1
              refine v_lload (pc := 114) 1 dX4_expected_114 rfl ?_
              refine v_ldc2 (pc := 116) dX4_expected_116 tb_680 ?_
              refine v_aload_n (pc := 119) 2 dX4_expected_119 rfl rfl ?_
              refine gf_240 (pc := 120) 0 dX4_expected_120 rfl rfl ?_
              refine gf_96 (pc := 123) 4 dX4_expected_123 rfl rfl ?_
              refine v_callS (pc := 126) (rest := [.long (lN (expN v rl (expF nt rl w sp hm on nd br kd n) (2 ^ rl)))]) [] lk_674 (c_X4_power l E 10 rl (by omega)) dX4_expected_126 rfl rfl (Nat.le_of_ble_eq_true rfl) (by decide) (by decide) rfl (Rt.len rfl) (Rt.go ?_)
              refine v_w (ws' := [(y0, .inr (4, [.ref a0, .ref yi, .ref yk, .ref l0, .ref t0, .ref yn, .ref yt, .int (nI se), .ref ys, .int (tn), .ref ym])), (l0, .inr (0, [.ref lh, .ref lb])), (lh, .inl (E.2.1 2, 8, .inr (.inl (openF hm on nd br hf rl)))), (lb, .inl (E.2.1 2, 6, .inr (.inl (gb)))), (a0, .inr (2, [.int (nI nt), .int (nI pp), .int (nI rl), .int (hm), .int (sp), .int (td), .int (dt), .ref ao, .ref aw, .ref an, .ref ab, .ref av])), (ao, .inl (E.2.1 1, 8, .inl (on))), (aw, .inl (E.2.1 1, 8, .inl (wr))), (an, .inl (E.2.1 1, 8, .inl (nd))), (ab, .inl (E.2.1 1, 8, .inl (br)))]) rfl ?_
              refine v_st (st' := [.long (lN (10 ^ rl)), .long (lN (expN v rl (expF nt rl w sp hm on nd br kd n) (2 ^ rl)))]) rfl ?_
              refine v_iload (pc := 129) 6 dX4_expected_129 rfl ?_
              refine v_callS (pc := 131) (rest := []) [] lk_681 (c_X4_inLowestTerms l E (expN v rl (expF nt rl w sp hm on nd br kd n) (2 ^ rl)) (10 ^ rl) wh (Nat.pow_pos (by decide)) (by have := expN_le hv (h_rl) hfb (2 ^ rl) (Nat.le_refl _); omega) (by have := ten_rl h_rl; omega)) dX4_expected_131 rfl rfl (Nat.le_of_ble_eq_true rfl) (by decide) (by decide) rfl (Rt.len rfl) (Rt.go ?_)
              refine v_w (ws' := [(y0, .inr (4, [.ref a0, .ref yi, .ref yk, .ref l0, .ref t0, .ref yn, .ref yt, .int (nI se), .ref ys, .int (tn), .ref ym])), (l0, .inr (0, [.ref lh, .ref lb])), (lh, .inl (E.2.1 2, 8, .inr (.inl (openF hm on nd br hf rl)))), (lb, .inl (E.2.1 2, 6, .inr (.inl (gb)))), (a0, .inr (2, [.int (nI nt), .int (nI pp), .int (nI rl), .int (hm), .int (sp), .int (td), .int (dt), .ref ao, .ref aw, .ref an, .ref ab, .ref av])), (ao, .inl (E.2.1 1, 8, .inl (on))), (aw, .inl (E.2.1 1, 8, .inl (wr))), (an, .inl (E.2.1 1, 8, .inl (nd))), (ab, .inl (E.2.1 1, 8, .inl (br)))]) rfl ?_
              refine v_st (st' := [.long (lowT (expN v rl (expF nt rl w sp hm on nd br kd n) (2 ^ rl)) (10 ^ rl) wh)]) rfl ?_
              refine v_lret (pc := 134) dX4_expected_134 rfl ⟨rfl, rfl⟩ (RtE2.l (openF hm on nd br hf rl) (gb) ?_ ?_)
              · skip
                unfold expR; rw [if_neg c_1, if_neg c_7, if_pos c_15, hvc]
              · skip
                rfl
            · skip
              refine v_aload_n (pc := 58) 2 dX4_expected_58 rfl rfl ?_
              refine v_iload (pc := 59) 0 dX4_expected_59 rfl ?_
              refine v_iload_n (pc := 61) 3 dX4_expected_61 rfl rfl ?_
              refine v_callV (pc := 62) (rest := []) [0, 4] 0 lk_670 (c_X4_weightOf l E y0 yi yk t0 yn yt ys ym se tn l0 a0 ao aw an ab av nt pp rl hm sp td dt i v (by first | assumption | omega) (by first | assumption | omega) (by first | assumption | omega)) dX4_expected_62 rfl rfl (Nat.le_of_ble_eq_true rfl) (by decide) rfl rfl rfl (by decide) rfl (Rt.len rfl) (Rt.go ?_)
              refine v_w (ws' := [(y0, .inr (4, [.ref a0, .ref yi, .ref yk, .ref l0, .ref t0, .ref yn, .ref yt, .int (nI se), .ref ys, .int (tn), .ref ym])), (l0, .inr (0, [.ref lh, .ref lb])), (lh, .inl (E.2.1 2, 8, .inr (.inl (openF hm on nd br hf rl)))), (lb, .inl (E.2.1 2, 6, .inr (.inl (gb)))), (a0, .inr (2, [.int (nI nt), .int (nI pp), .int (nI rl), .int (hm), .int (sp), .int (td), .int (dt), .ref ao, .ref aw, .ref an, .ref ab, .ref av])), (ao, .inl (E.2.1 1, 8, .inl (on))), (aw, .inl (E.2.1 1, 8, .inl (wr))), (an, .inl (E.2.1 1, 8, .inl (nd))), (ab, .inl (E.2.1 1, 8, .inl (br)))]) rfl ?_
              refine v_st (st' := [.long (lN (wgt v rl i))]) rfl ?_
              refine v_lstore (pc := 65) (lv' := [(8, .long (lN (wgt v rl i))), (7, .int (nI i)), (5, .long (acc)), (0, .ref y0), (1, .int (nI v)), (2, .int (kd)), (3, .int (nI n)), (4, .int (wh))]) dX4_expected_65 (by decide) rfl ?_
              refine v_lload (pc := 67) 0 dX4_expected_67 rfl ?_
              refine v_lconst (pc := 69) (v := 0) dX4_expected_69 (by decide) ?_
              refine v_lcmp (pc := 70) dX4_expected_70 ?_
              refine v_lc_eq (pc := 71) 108 dX4_expected_71 (by decide) (fun c_71 => ?_) (fun c_71 => ?_)
              · skip
                refine v_iinc (pc := 108) (v := nI (i + 1)) (lv' := [(7, .int (nI (i + 1))), (8, .long (lN (wgt v rl i))), (5, .long (acc)), (0, .ref y0), (1, .int (nI v)), (2, .int (kd)), (3, .int (nI n)), (4, .int (wh))]) 1 dX4_expected_108 rfl (nI_inc (i) 1) (by decide) rfl ?_
                refine v_goto (pc := 111) 46 dX4_expected_111 (by decide) ?_
                refine v_lv (lv' := [(7, .int (nI (i + 1))), (5, .long (acc)), (0, .ref y0), (1, .int (nI v)), (2, .int (kd)), (3, .int (nI n)), (4, .int (wh))]) [0, 2, 3, 4, 5, 6, 7] rfl ?_
                refine ih_46 (i + 1) acc gb (by omega) ?_ ?_
                · omega
                · simp only [expN]; rw [h_46_1, show wgt v rl i = 0 from (lN0 (by have := wgt_le hv h_rl (c := i) (by omega); omega)).mp c_71, Nat.zero_mul, Nat.add_zero]
              · skip
                refine v_lload (pc := 74) 2 dX4_expected_74 rfl ?_
                refine v_lload (pc := 76) 0 dX4_expected_76 rfl ?_
                refine v_aload_n (pc := 78) 3 dX4_expected_78 rfl rfl ?_
                refine gf_243 (pc := 79) 0 dX4_expected_79 rfl rfl ?_
                refine v_aload_n (pc := 82) 3 dX4_expected_82 rfl rfl ?_
                refine gf_240 (pc := 83) 0 dX4_expected_83 rfl rfl ?_
                refine v_iload (pc := 86) 1 dX4_expected_86 rfl ?_
                refine v_aload_n (pc := 88) 3 dX4_expected_88 rfl rfl ?_
                refine gf_240 (pc := 89) 0 dX4_expected_89 rfl rfl ?_
                refine gf_104 (pc := 92) 4 dX4_expected_92 rfl rfl ?_
                refine v_callV (pc := 95) (rest := [.long (lN (wgt v rl i)), .long (acc)]) [1, 2, 3, 4, 6] 1 lk_595 (c_X0_agreeing l E l0 lh lb a0 ao aw an ab av nt pp rl hm sp td dt on wr nd br (nI i) sp hm (openF hm on nd br hf rl) gb w (by first | assumption | omega) (by first | assumption | omega) (by first | assumption | omega) open_ho) dX4_expected_95 rfl rfl (Nat.le_of_ble_eq_true rfl) (by decide) rfl rfl rfl (by decide) rfl (RtE1.len (fun _ => rfl)) (RtE1.go (fun bg_95 => ?_))
                refine v_w (ws' := [(y0, .inr (4, [.ref a0, .ref yi, .ref yk, .ref l0, .ref t0, .ref yn, .ref yt, .int (nI se), .ref ys, .int (tn), .ref ym])), (l0, .inr (0, [.ref lh, .ref lb])), (lh, .inl (E.2.1 2, 8, .inr (.inl ((openF hm on nd br hf rl))))), (lb, .inl (E.2.1 2, 6, .inr (.inl (bg_95)))), (a0, .inr (2, [.int (nI nt), .int (nI pp), .int (nI rl), .int (hm), .int (sp), .int (td), .int (dt), .ref ao, .ref aw, .ref an, .ref ab, .ref av])), (ao, .inl (E.2.1 1, 8, .inl (on))), (aw, .inl (E.2.1 1, 8, .inl (wr))), (an, .inl (E.2.1 1, 8, .inl (nd))), (ab, .inl (E.2.1 1, 8, .inl (br)))]) rfl ?_
                refine v_st (st' := [.long (ag nt rl w (nI i) sp hm on nd br), .long (lN (wgt v rl i)), .long (acc)]) rfl ?_
                refine v_iload_n (pc := 98) 5 dX4_expected_98 rfl rfl ?_
                refine v_iload_n (pc := 99) 6 dX4_expected_99 rfl rfl ?_
                refine v_callS (pc := 100) (rest := [.long (lN (wgt v rl i)), .long (acc)]) [] lk_677 (c_X4_measure l E (ag nt rl w (nI i) sp hm on nd br) kd n (by first | assumption | omega)) dX4_expected_100 rfl rfl (Nat.le_of_ble_eq_true rfl) (by decide) (by decide) rfl (Rt.len rfl) (Rt.go ?_)
                refine v_w (ws' := [(y0, .inr (4, [.ref a0, .ref yi, .ref yk, .ref l0, .ref t0, .ref yn, .ref yt, .int (nI se), .ref ys, .int (tn), .ref ym])), (l0, .inr (0, [.ref lh, .ref lb])), (lh, .inl (E.2.1 2, 8, .inr (.inl ((openF hm on nd br hf rl))))), (lb, .inl (E.2.1 2, 6, .inr (.inl (bg_95)))), (a0, .inr (2, [.int (nI nt), .int (nI pp), .int (nI rl), .int (hm), .int (sp), .int (td), .int (dt), .ref ao, .ref aw, .ref an, .ref ab, .ref av])), (ao, .inl (E.2.1 1, 8, .inl (on))), (aw, .inl (E.2.1 1, 8, .inl (wr))), (an, .inl (E.2.1 1, 8, .inl (nd))), (ab, .inl (E.2.1 1, 8, .inl (br)))]) rfl ?_
                refine v_st (st' := [.int (meas (ag nt rl w (nI i) sp hm on nd br) kd n), .long (lN (wgt v rl i)), .long (acc)]) rfl ?_
                refine v_st (st' := [.int (nI (measN (ag nt rl w (nI i) (sp) (hm) on nd br) kd n)), .long (lN (wgt v rl i)), .long (acc)]) (by rw [(meas_N _ _ _).1]) ?_
                refine v_i2l (pc := 103) dX4_expected_103 ?_
                refine v_st (st' := [.long (lN (measN (ag nt rl w (nI i) (sp) (hm) on nd br) kd n)), .long (lN (wgt v rl i)), .long (acc)]) (by rw [nI_l (Nat.lt_trans (meas_N _ _ _).2 (by decide))]) ?_
                refine v_lmul (pc := 104) dX4_expected_104 ?_
                refine v_st (st' := [.long (lN (wgt v rl i * measN (ag nt rl w (nI i) (sp) (hm) on nd br) kd n)), .long (acc)]) (by rw [lN_mul]) ?_
                refine v_ladd (pc := 105) dX4_expected_105 ?_
                refine v_lstore (pc := 106) (lv' := [(5, .long ((acc) + (lN (wgt v rl i * measN (ag nt rl w (nI i) (sp) (hm) on nd br) kd n)))), (8, .long (lN (wgt v rl i))), (7, .int (nI i)), (0, .ref y0), (1, .int (nI v)), (2, .int (kd)), (3, .int (nI n)), (4, .int (wh))]) dX4_expected_106 (by decide) rfl ?_
                refine v_iinc (pc := 108) (v := nI (i + 1)) (lv' := [(7, .int (nI (i + 1))), (5, .long ((acc) + (lN (wgt v rl i * measN (ag nt rl w (nI i) (sp) (hm) on nd br) kd n)))), (8, .long (lN (wgt v rl i))), (0, .ref y0), (1, .int (nI v)), (2, .int (kd)), (3, .int (nI n)), (4, .int (wh))]) 2 dX4_expected_108 rfl (nI_inc (i) 1) (by decide) rfl ?_
                refine v_goto (pc := 111) 46 dX4_expected_111 (by decide) ?_
                refine v_lv (lv' := [(7, .int (nI (i + 1))), (5, .long ((acc) + (lN (wgt v rl i * measN (ag nt rl w (nI i) (sp) (hm) on nd br) kd n)))), (0, .ref y0), (1, .int (nI v)), (2, .int (kd)), (3, .int (nI n)), (4, .int (wh))]) [0, 1, 3, 4, 5, 6, 7] rfl ?_
                refine ih_46 (i + 1) ((acc) + (lN (wgt v rl i * measN (ag nt rl w (nI i) (sp) (hm) on nd br) kd n))) bg_95 (by omega) ?_ ?_
                · omega
                · simp only [expN]; rw [h_46_1, lN_add]; rfl
        refine v_lv (lv' := [(7, .int (nI 0)), (5, .long (0)), (0, .ref y0), (1, .int (nI v)), (2, .int (kd)), (3, .int (nI n)), (4, .int (wh))]) [0, 1, 2, 3, 4, 5, 6] rfl ?_
        refine loop_46 ((2 ^ rl - 0) + 1) 0 0 bg (Nat.lt_succ_self _) ?_ ?_
        · omega
        · rfl
      · skip
        refine v_ldc2 (pc := 18) dX4_expected_18 tb_585 ?_
        refine v_lret (pc := 21) dX4_expected_21 rfl ⟨rfl, rfl⟩ (RtE2.l (hf) (bg) ?_ ?_)
        · skip
          unfold expR; rw [if_neg c_1, if_neg c_7, if_neg c_15]
        · skip
          rfl
