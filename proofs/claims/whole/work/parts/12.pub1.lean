def itr (f : Int32 → Int32) : Nat → Int32 → Int32
  | 0, x => x
  | n + 1, x => f (itr f n x)
theorem in6 {x : Int32} {nt : Nat} (h : okN x nt) (hn : nt ≤ 6) : vp_in x 6 := okN_in h.1 h.2 hn (by decide)
theorem in8 {x : Int32} {rl : Nat} (h : okN x rl) (hn : rl ≤ 8) : vp_in x 8 := okN_in h.1 h.2 hn (by decide)
def expF (nt rl : Nat) (w : Nat → Nat) (sp hm : Int32) (on nd br : Nat → Int32) (kd : Int32) (n : Nat) : Nat → Nat := fun c => measN (ag nt rl w (nI c) sp hm on nd br) kd n
def expR (nt rl : Nat) (w : Nat → Nat) (sp hm : Int32) (on nd br : Nat → Int32) (x kd : Int32) (n : Nat) (wh : Int32) : Int64 := if x < 0 then -1 else if 10 < x then -1 else if wh = 0 ∨ wh = 1 then lowT (expN x.toNatClampNeg rl (expF nt rl w sp hm on nd br kd n) (2 ^ rl)) (10 ^ rl) wh else -1
theorem ten_rl {rl : Nat} (h : rl ≤ 8) : 10 ^ rl ≤ 100000000 := Nat.pow_le_pow_right (by decide) h
theorem c_X4_rule (l : Launch) (E : VE) (y0 : Nat) (yi : Nat) (yk : Nat) (t0 : Nat) (yn : Nat) (yt : Nat) (ys : Nat) (ym : Nat) (se : Nat) (tn : Int32) (l0 : Nat) (a0 : Nat) (ao : Nat) (aw : Nat) (an : Nat) (ab : Nat) (av : Nat) (nt : Nat) (pp : Nat) (rl : Nat) (hm : Int32) (sp : Int32) (td : Int32) (dt : Int32) (x : Int32) : Ct l E yX4_rule cX4_rule 2 (Option.some FieldType.int) 0 0 0 0 [.ref y0, .int (x)] [(y0, .inr (4, [.ref a0, .ref yi, .ref yk, .ref l0, .ref t0, .ref yn, .ref yt, .int (nI se), .ref ys, .int (tn), .ref ym])), (a0, .inr (2, [.int (nI nt), .int (nI pp), .int (nI rl), .int (hm), .int (sp), .int (td), .int (dt), .ref ao, .ref aw, .ref an, .ref ab, .ref av]))] (Rt (some (.int (if x = 0 then nI nt else if x = 1 then nI pp else if x = 2 then nI rl else if x = 3 then hm else if x = 4 then sp else if x = 5 then td else if x = 6 then dt else -1))) [(y0, .inr (4, [.ref a0, .ref yi, .ref yk, .ref l0, .ref t0, .ref yn, .ref yt, .int (nI se), .ref ys, .int (tn), .ref ym])), (a0, .inr (2, [.int (nI nt), .int (nI pp), .int (nI rl), .int (hm), .int (sp), .int (td), .int (dt), .ref ao, .ref aw, .ref an, .ref ab, .ref av]))]) := by
  refine Ct.of (own := RX4) (nm := "rule") (lv := [(0, .ref y0), (1, .int (x))]) (by decide) rfl rfl (Nat.le_of_ble_eq_true rfl) rfl ?_
  refine v_iload_n (pc := 0) 1 dX4_rule_0 rfl rfl ?_
  by_cases c_1_0 : x = 0
  · skip
    refine v_tableIn (pc := 1) (off := 43) 44 dX4_rule_1 (by rw [c_1_0]; decide) (by rw [c_1_0]; decide) (by rw [c_1_0]; decide) (by decide) ?_
    refine v_aload_n (pc := 44) 0 dX4_rule_44 rfl rfl ?_
    refine gf_240 (pc := 45) 0 dX4_rule_45 rfl rfl ?_
    refine gf_90 (pc := 48) 1 dX4_rule_48 rfl rfl ?_
    refine v_iret (pc := 51) dX4_rule_51 rfl ⟨rfl, rfl⟩ (Rt.i ?_)
    first | simp only [if_pos c_1_0] | rfl
  by_cases c_1_1 : x = 1
  · skip
    refine v_tableIn (pc := 1) (off := 51) 52 dX4_rule_1 (by rw [c_1_1]; decide) (by rw [c_1_1]; decide) (by rw [c_1_1]; decide) (by decide) ?_
    refine v_aload_n (pc := 52) 0 dX4_rule_52 rfl rfl ?_
    refine gf_240 (pc := 53) 0 dX4_rule_53 rfl rfl ?_
    refine gf_93 (pc := 56) 1 dX4_rule_56 rfl rfl ?_
    refine v_iret (pc := 59) dX4_rule_59 rfl ⟨rfl, rfl⟩ (Rt.i ?_)
    first | simp only [if_neg c_1_0, if_pos c_1_1] | rfl
  by_cases c_1_2 : x = 2
  · skip
    refine v_tableIn (pc := 1) (off := 59) 60 dX4_rule_1 (by rw [c_1_2]; decide) (by rw [c_1_2]; decide) (by rw [c_1_2]; decide) (by decide) ?_
    refine v_aload_n (pc := 60) 0 dX4_rule_60 rfl rfl ?_
    refine gf_240 (pc := 61) 0 dX4_rule_61 rfl rfl ?_
    refine gf_96 (pc := 64) 1 dX4_rule_64 rfl rfl ?_
    refine v_iret (pc := 67) dX4_rule_67 rfl ⟨rfl, rfl⟩ (Rt.i ?_)
    first | simp only [if_neg c_1_0, if_neg c_1_1, if_pos c_1_2] | rfl
  by_cases c_1_3 : x = 3
  · skip
    refine v_tableIn (pc := 1) (off := 67) 68 dX4_rule_1 (by rw [c_1_3]; decide) (by rw [c_1_3]; decide) (by rw [c_1_3]; decide) (by decide) ?_
    refine v_aload_n (pc := 68) 0 dX4_rule_68 rfl rfl ?_
    refine gf_240 (pc := 69) 0 dX4_rule_69 rfl rfl ?_
    refine gf_100 (pc := 72) 1 dX4_rule_72 rfl rfl ?_
    refine v_iret (pc := 75) dX4_rule_75 rfl ⟨rfl, rfl⟩ (Rt.i ?_)
    first | simp only [if_neg c_1_0, if_neg c_1_1, if_neg c_1_2, if_pos c_1_3] | rfl
  by_cases c_1_4 : x = 4
  · skip
    refine v_tableIn (pc := 1) (off := 75) 76 dX4_rule_1 (by rw [c_1_4]; decide) (by rw [c_1_4]; decide) (by rw [c_1_4]; decide) (by decide) ?_
    refine v_aload_n (pc := 76) 0 dX4_rule_76 rfl rfl ?_
    refine gf_240 (pc := 77) 0 dX4_rule_77 rfl rfl ?_
    refine gf_104 (pc := 80) 1 dX4_rule_80 rfl rfl ?_
    refine v_iret (pc := 83) dX4_rule_83 rfl ⟨rfl, rfl⟩ (Rt.i ?_)
    first | simp only [if_neg c_1_0, if_neg c_1_1, if_neg c_1_2, if_neg c_1_3, if_pos c_1_4] | rfl
  by_cases c_1_5 : x = 5
  · skip
    refine v_tableIn (pc := 1) (off := 83) 84 dX4_rule_1 (by rw [c_1_5]; decide) (by rw [c_1_5]; decide) (by rw [c_1_5]; decide) (by decide) ?_
    refine v_aload_n (pc := 84) 0 dX4_rule_84 rfl rfl ?_
    refine gf_240 (pc := 85) 0 dX4_rule_85 rfl rfl ?_
    refine gf_107 (pc := 88) 1 dX4_rule_88 rfl rfl ?_
    refine v_iret (pc := 91) dX4_rule_91 rfl ⟨rfl, rfl⟩ (Rt.i ?_)
    first | simp only [if_neg c_1_0, if_neg c_1_1, if_neg c_1_2, if_neg c_1_3, if_neg c_1_4, if_pos c_1_5] | rfl
  by_cases c_1_6 : x = 6
  · skip
    refine v_tableIn (pc := 1) (off := 91) 92 dX4_rule_1 (by rw [c_1_6]; decide) (by rw [c_1_6]; decide) (by rw [c_1_6]; decide) (by decide) ?_
    refine v_aload_n (pc := 92) 0 dX4_rule_92 rfl rfl ?_
    refine gf_240 (pc := 93) 0 dX4_rule_93 rfl rfl ?_
    refine gf_110 (pc := 96) 1 dX4_rule_96 rfl rfl ?_
    refine v_iret (pc := 99) dX4_rule_99 rfl ⟨rfl, rfl⟩ (Rt.i ?_)
    first | simp only [if_neg c_1_0, if_neg c_1_1, if_neg c_1_2, if_neg c_1_3, if_neg c_1_4, if_neg c_1_5, if_pos c_1_6] | rfl
  refine v_tableOut (pc := 1) 100 dX4_rule_1 (sw_out7 c_1_0 c_1_1 c_1_2 c_1_3 c_1_4 c_1_5 c_1_6) (by decide) ?_
  refine v_iconst (pc := 100) (v := -1) dX4_rule_100 (by decide) ?_
  refine v_iret (pc := 101) dX4_rule_101 rfl ⟨rfl, rfl⟩ (Rt.i ?_)
  first | simp only [if_neg c_1_0, if_neg c_1_1, if_neg c_1_2, if_neg c_1_3, if_neg c_1_4, if_neg c_1_5, if_neg c_1_6] | rfl
theorem c_X4_law (l : Launch) (E : VE) (y0 : Nat) (yi : Nat) (yk : Nat) (t0 : Nat) (yn : Nat) (yt : Nat) (ys : Nat) (ym : Nat) (se : Nat) (tn : Int32) (l0 : Nat) (a0 : Nat) (ao : Nat) (aw : Nat) (an : Nat) (ab : Nat) (av : Nat) (nt : Nat) (pp : Nat) (rl : Nat) (hm : Int32) (sp : Int32) (td : Int32) (dt : Int32) (on : Nat → Int32) (wr : Nat → Int32) (nd : Nat → Int32) (br : Nat → Int32) (k : Int32) (x : Int32) (h_rl : rl ≤ 8) : Ct l E yX4_law cX4_law 3 (Option.some FieldType.int) 2 43 0 0 [.ref y0, .int (k), .int (x)] [(y0, .inr (4, [.ref a0, .ref yi, .ref yk, .ref l0, .ref t0, .ref yn, .ref yt, .int (nI se), .ref ys, .int (tn), .ref ym])), (a0, .inr (2, [.int (nI nt), .int (nI pp), .int (nI rl), .int (hm), .int (sp), .int (td), .int (dt), .ref ao, .ref aw, .ref an, .ref ab, .ref av])), (ao, .inl (E.2.1 1, 8, .inl (on))), (aw, .inl (E.2.1 1, 8, .inl (wr))), (an, .inl (E.2.1 1, 8, .inl (nd))), (ab, .inl (E.2.1 1, 8, .inl (br)))] (Rt (some (.int (if okN k rl then (if x = 0 then on k.toNatClampNeg else if x = 1 then wr k.toNatClampNeg else if x = 2 then nd k.toNatClampNeg else if x = 3 then br k.toNatClampNeg else if x = 4 then (if hldP hm (on k.toNatClampNeg) (nd k.toNatClampNeg) (br k.toNatClampNeg) td then 1 else 0) else -1) else -1))) [(y0, .inr (4, [.ref a0, .ref yi, .ref yk, .ref l0, .ref t0, .ref yn, .ref yt, .int (nI se), .ref ys, .int (tn), .ref ym])), (a0, .inr (2, [.int (nI nt), .int (nI pp), .int (nI rl), .int (hm), .int (sp), .int (td), .int (dt), .ref ao, .ref aw, .ref an, .ref ab, .ref av])), (ao, .inl (E.2.1 1, 8, .inl (on))), (aw, .inl (E.2.1 1, 8, .inl (wr))), (an, .inl (E.2.1 1, 8, .inl (nd))), (ab, .inl (E.2.1 1, 8, .inl (br)))]) := by
  refine Ct.of (own := RX4) (nm := "law") (lv := [(0, .ref y0), (1, .int (k)), (2, .int (x))]) (by decide) rfl rfl (Nat.le_of_ble_eq_true rfl) rfl ?_
  refine v_aload_n (pc := 0) 0 dX4_law_0 rfl rfl ?_
  refine gf_240 (pc := 1) 0 dX4_law_1 rfl rfl ?_
  refine v_iload_n (pc := 4) 1 dX4_law_4 rfl rfl ?_
  refine v_callV (pc := 5) (rest := []) [1] 1 lk_449 (c_X2_hasRule l E a0 ao aw an ab av nt pp rl hm sp td dt k) dX4_law_5 rfl rfl (Nat.le_of_ble_eq_true rfl) (by decide) rfl rfl rfl (by decide) rfl (Rt.len rfl) (Rt.go ?_)
  refine v_w (ws' := [(y0, .inr (4, [.ref a0, .ref yi, .ref yk, .ref l0, .ref t0, .ref yn, .ref yt, .int (nI se), .ref ys, .int (tn), .ref ym])), (a0, .inr (2, [.int (nI nt), .int (nI pp), .int (nI rl), .int (hm), .int (sp), .int (td), .int (dt), .ref ao, .ref aw, .ref an, .ref ab, .ref av])), (ao, .inl (E.2.1 1, 8, .inl (on))), (aw, .inl (E.2.1 1, 8, .inl (wr))), (an, .inl (E.2.1 1, 8, .inl (nd))), (ab, .inl (E.2.1 1, 8, .inl (br)))]) rfl ?_
  refine v_st (st' := [.int (if okN k rl then 1 else 0)]) rfl ?_
  refine v_ifB_ne (pc := 8) 13 dX4_law_8 (by decide) (fun c_8 => ?_) (fun c_8 => ?_)
  · skip
    refine v_iload_n (pc := 13) 2 dX4_law_13 rfl rfl ?_
    by_cases c_14_0 : x = 0
    · skip
      refine v_tableIn (pc := 14) (off := 34) 48 dX4_law_14 (by rw [c_14_0]; decide) (by rw [c_14_0]; decide) (by rw [c_14_0]; decide) (by decide) ?_
      refine v_aload_n (pc := 48) 0 dX4_law_48 rfl rfl ?_
      refine gf_240 (pc := 49) 0 dX4_law_49 rfl rfl ?_
      refine gf_113 (pc := 52) 1 dX4_law_52 rfl rfl ?_
      refine v_iload_n (pc := 55) 1 dX4_law_55 rfl rfl ?_
      refine v_iald (pc := 56) 2 1 dX4_law_56 rfl rfl (in8 c_8 h_rl) ?_
      refine v_iret (pc := 57) dX4_law_57 rfl ⟨rfl, rfl⟩ (Rt.i ?_)
      first | simp only [if_pos c_8, if_pos c_14_0] | rfl
    by_cases c_14_1 : x = 1
    · skip
      refine v_tableIn (pc := 14) (off := 44) 58 dX4_law_14 (by rw [c_14_1]; decide) (by rw [c_14_1]; decide) (by rw [c_14_1]; decide) (by decide) ?_
      refine v_aload_n (pc := 58) 0 dX4_law_58 rfl rfl ?_
      refine gf_240 (pc := 59) 0 dX4_law_59 rfl rfl ?_
      refine gf_116 (pc := 62) 1 dX4_law_62 rfl rfl ?_
      refine v_iload_n (pc := 65) 1 dX4_law_65 rfl rfl ?_
      refine v_iald (pc := 66) 3 1 dX4_law_66 rfl rfl (in8 c_8 h_rl) ?_
      refine v_iret (pc := 67) dX4_law_67 rfl ⟨rfl, rfl⟩ (Rt.i ?_)
      first | simp only [if_pos c_8, if_neg c_14_0, if_pos c_14_1] | rfl
    by_cases c_14_2 : x = 2
    · skip
      refine v_tableIn (pc := 14) (off := 54) 68 dX4_law_14 (by rw [c_14_2]; decide) (by rw [c_14_2]; decide) (by rw [c_14_2]; decide) (by decide) ?_
      refine v_aload_n (pc := 68) 0 dX4_law_68 rfl rfl ?_
      refine gf_240 (pc := 69) 0 dX4_law_69 rfl rfl ?_
      refine gf_119 (pc := 72) 1 dX4_law_72 rfl rfl ?_
      refine v_iload_n (pc := 75) 1 dX4_law_75 rfl rfl ?_
      refine v_iald (pc := 76) 4 1 dX4_law_76 rfl rfl (in8 c_8 h_rl) ?_
      refine v_iret (pc := 77) dX4_law_77 rfl ⟨rfl, rfl⟩ (Rt.i ?_)
      first | simp only [if_pos c_8, if_neg c_14_0, if_neg c_14_1, if_pos c_14_2] | rfl
    by_cases c_14_3 : x = 3
    · skip
      refine v_tableIn (pc := 14) (off := 64) 78 dX4_law_14 (by rw [c_14_3]; decide) (by rw [c_14_3]; decide) (by rw [c_14_3]; decide) (by decide) ?_
      refine v_aload_n (pc := 78) 0 dX4_law_78 rfl rfl ?_
      refine gf_240 (pc := 79) 0 dX4_law_79 rfl rfl ?_
      refine gf_122 (pc := 82) 1 dX4_law_82 rfl rfl ?_
      refine v_iload_n (pc := 85) 1 dX4_law_85 rfl rfl ?_
      refine v_iald (pc := 86) 5 1 dX4_law_86 rfl rfl (in8 c_8 h_rl) ?_
      refine v_iret (pc := 87) dX4_law_87 rfl ⟨rfl, rfl⟩ (Rt.i ?_)
      first | simp only [if_pos c_8, if_neg c_14_0, if_neg c_14_1, if_neg c_14_2, if_pos c_14_3] | rfl
    by_cases c_14_4 : x = 4
    · skip
      refine v_tableIn (pc := 14) (off := 74) 88 dX4_law_14 (by rw [c_14_4]; decide) (by rw [c_14_4]; decide) (by rw [c_14_4]; decide) (by decide) ?_
      obtain ⟨j, hj, rfl⟩ := okN_ex c_8 (by omega)
      refine v_aload_n (pc := 88) 0 dX4_law_88 rfl rfl ?_
      refine gf_240 (pc := 89) 0 dX4_law_89 rfl rfl ?_
      refine v_iload_n (pc := 92) 1 dX4_law_92 rfl rfl ?_
      refine v_aload_n (pc := 93) 0 dX4_law_93 rfl rfl ?_
      refine gf_240 (pc := 94) 0 dX4_law_94 rfl rfl ?_
      refine gf_107 (pc := 97) 1 dX4_law_97 rfl rfl ?_
      refine v_callV (pc := 100) (rest := []) [1, 2, 4, 5] 1 lk_453 (c_X2_holds l E a0 ao aw an ab av nt pp rl hm sp td dt on nd br j td (by first | assumption | omega)) dX4_law_100 rfl rfl (Nat.le_of_ble_eq_true rfl) (by decide) rfl rfl rfl (by decide) rfl (Rt.len rfl) (Rt.go ?_)
      refine v_w (ws' := [(y0, .inr (4, [.ref a0, .ref yi, .ref yk, .ref l0, .ref t0, .ref yn, .ref yt, .int (nI se), .ref ys, .int (tn), .ref ym])), (a0, .inr (2, [.int (nI nt), .int (nI pp), .int (nI rl), .int (hm), .int (sp), .int (td), .int (dt), .ref ao, .ref aw, .ref an, .ref ab, .ref av])), (ao, .inl (E.2.1 1, 8, .inl (on))), (aw, .inl (E.2.1 1, 8, .inl (wr))), (an, .inl (E.2.1 1, 8, .inl (nd))), (ab, .inl (E.2.1 1, 8, .inl (br)))]) rfl ?_
      refine v_st (st' := [.int (if hldP hm (on j) (nd j) (br j) td then 1 else 0)]) rfl ?_
      refine v_ifB_eq (pc := 103) 110 dX4_law_103 (by decide) (fun c_103 => ?_) (fun c_103 => ?_)
      · skip
        refine v_iconst (pc := 110) (v := 0) dX4_law_110 (by decide) ?_
        refine v_iret (pc := 111) dX4_law_111 rfl ⟨rfl, rfl⟩ (Rt.i ?_)
        rw [nI_clamp (by omega)]
        simp only [if_pos c_8, if_neg c_14_0, if_neg c_14_1, if_neg c_14_2, if_neg c_14_3, if_pos c_14_4]
        exact (if_neg c_103).symm
      · skip
        refine v_iconst (pc := 106) (v := 1) dX4_law_106 (by decide) ?_
        refine v_goto (pc := 107) 111 dX4_law_107 (by decide) ?_
        refine v_iret (pc := 111) dX4_law_111 rfl ⟨rfl, rfl⟩ (Rt.i ?_)
        rw [nI_clamp (by omega)]
        simp only [if_pos c_8, if_neg c_14_0, if_neg c_14_1, if_neg c_14_2, if_neg c_14_3, if_pos c_14_4]
        exact (if_pos c_103).symm
    refine v_tableOut (pc := 14) 112 dX4_law_14 (sw_out5 c_14_0 c_14_1 c_14_2 c_14_3 c_14_4) (by decide) ?_
    refine v_iconst (pc := 112) (v := -1) dX4_law_112 (by decide) ?_
    refine v_iret (pc := 113) dX4_law_113 rfl ⟨rfl, rfl⟩ (Rt.i ?_)
    first | simp only [if_pos c_8, if_neg c_14_0, if_neg c_14_1, if_neg c_14_2, if_neg c_14_3, if_neg c_14_4] | rfl
  · skip
    refine v_iconst (pc := 11) (v := -1) dX4_law_11 (by decide) ?_
    refine v_iret (pc := 12) dX4_law_12 rfl ⟨rfl, rfl⟩ (Rt.i ?_)
    first | simp only [if_neg c_8] | rfl
theorem c_X4_worth (l : Launch) (E : VE) (y0 : Nat) (yi : Nat) (yk : Nat) (t0 : Nat) (yn : Nat) (yt : Nat) (ys : Nat) (ym : Nat) (se : Nat) (tn : Int32) (l0 : Nat) (a0 : Nat) (ao : Nat) (aw : Nat) (an : Nat) (ab : Nat) (av : Nat) (nt : Nat) (pp : Nat) (rl : Nat) (hm : Int32) (sp : Int32) (td : Int32) (dt : Int32) (wo : Nat → Int32) (n : Int32) (h_nt : nt ≤ 6) : Ct l E yX4_worth cX4_worth 2 (Option.some FieldType.int) 1 21 0 0 [.ref y0, .int (n)] [(y0, .inr (4, [.ref a0, .ref yi, .ref yk, .ref l0, .ref t0, .ref yn, .ref yt, .int (nI se), .ref ys, .int (tn), .ref ym])), (a0, .inr (2, [.int (nI nt), .int (nI pp), .int (nI rl), .int (hm), .int (sp), .int (td), .int (dt), .ref ao, .ref aw, .ref an, .ref ab, .ref av])), (av, .inl (E.2.1 1, 6, .inl (wo)))] (Rt (some (.int (if okN n nt then 100 + wo n.toNatClampNeg else -1))) [(y0, .inr (4, [.ref a0, .ref yi, .ref yk, .ref l0, .ref t0, .ref yn, .ref yt, .int (nI se), .ref ys, .int (tn), .ref ym])), (a0, .inr (2, [.int (nI nt), .int (nI pp), .int (nI rl), .int (hm), .int (sp), .int (td), .int (dt), .ref ao, .ref aw, .ref an, .ref ab, .ref av])), (av, .inl (E.2.1 1, 6, .inl (wo)))]) := by
  refine Ct.of (own := RX4) (nm := "worth") (lv := [(0, .ref y0), (1, .int (n))]) (by decide) rfl rfl (Nat.le_of_ble_eq_true rfl) rfl ?_
  refine v_aload_n (pc := 0) 0 dX4_worth_0 rfl rfl ?_
  refine gf_240 (pc := 1) 0 dX4_worth_1 rfl rfl ?_
  refine v_iload_n (pc := 4) 1 dX4_worth_4 rfl rfl ?_
  refine v_callV (pc := 5) (rest := []) [1] 1 lk_462 (c_X2_hasNote l E a0 ao aw an ab av nt pp rl hm sp td dt n) dX4_worth_5 rfl rfl (Nat.le_of_ble_eq_true rfl) (by decide) rfl rfl rfl (by decide) rfl (Rt.len rfl) (Rt.go ?_)
  refine v_w (ws' := [(y0, .inr (4, [.ref a0, .ref yi, .ref yk, .ref l0, .ref t0, .ref yn, .ref yt, .int (nI se), .ref ys, .int (tn), .ref ym])), (a0, .inr (2, [.int (nI nt), .int (nI pp), .int (nI rl), .int (hm), .int (sp), .int (td), .int (dt), .ref ao, .ref aw, .ref an, .ref ab, .ref av])), (av, .inl (E.2.1 1, 6, .inl (wo)))]) rfl ?_
  refine v_st (st' := [.int (if okN n nt then 1 else 0)]) rfl ?_
  refine v_ifB_eq (pc := 8) 26 dX4_worth_8 (by decide) (fun c_8 => ?_) (fun c_8 => ?_)
  · skip
    refine v_iconst (pc := 26) (v := -1) dX4_worth_26 (by decide) ?_
    refine v_iret (pc := 27) dX4_worth_27 rfl ⟨rfl, rfl⟩ (Rt.i ?_)
    first | simp only [if_neg c_8] | rfl
  · skip
    refine v_bipush (pc := 11) (v := 100) dX4_worth_11 (by decide) ?_
    refine v_aload_n (pc := 13) 0 dX4_worth_13 rfl rfl ?_
    refine gf_240 (pc := 14) 0 dX4_worth_14 rfl rfl ?_
    refine gf_124 (pc := 17) 1 dX4_worth_17 rfl rfl ?_
    refine v_iload_n (pc := 20) 1 dX4_worth_20 rfl rfl ?_
    refine v_iald (pc := 21) 2 1 dX4_worth_21 rfl rfl (in6 c_8 h_nt) ?_
    refine v_iadd (pc := 22) dX4_worth_22 ?_
    refine v_goto (pc := 23) 27 dX4_worth_23 (by decide) ?_
    refine v_iret (pc := 27) dX4_worth_27 rfl ⟨rfl, rfl⟩ (Rt.i ?_)
    first | simp only [if_pos c_8] | rfl
theorem c_X4_refusal (l : Launch) (E : VE) (y0 : Nat) (yi : Nat) (yk : Nat) (t0 : Nat) (yn : Nat) (yt : Nat) (ys : Nat) (ym : Nat) (se : Nat) (tn : Int32) (l0 : Nat) (a0 : Nat) (ao : Nat) (aw : Nat) (an : Nat) (ab : Nat) (av : Nat) (nt : Nat) (pp : Nat) (rl : Nat) (hm : Int32) (sp : Int32) (td : Int32) (dt : Int32) (n : Int32) (P : Prop) (dP : Decidable P) : Ct l E yX4_refusal cX4_refusal 3 (Option.some FieldType.int) 1 21 0 0 [.ref y0, .int (n), .int (if P then 1 else 0)] [(y0, .inr (4, [.ref a0, .ref yi, .ref yk, .ref l0, .ref t0, .ref yn, .ref yt, .int (nI se), .ref ys, .int (tn), .ref ym])), (a0, .inr (2, [.int (nI nt), .int (nI pp), .int (nI rl), .int (hm), .int (sp), .int (td), .int (dt), .ref ao, .ref aw, .ref an, .ref ab, .ref av]))] (Rt (some (.int (refu nt sp n P))) [(y0, .inr (4, [.ref a0, .ref yi, .ref yk, .ref l0, .ref t0, .ref yn, .ref yt, .int (nI se), .ref ys, .int (tn), .ref ym])), (a0, .inr (2, [.int (nI nt), .int (nI pp), .int (nI rl), .int (hm), .int (sp), .int (td), .int (dt), .ref ao, .ref aw, .ref an, .ref ab, .ref av]))]) := by
  refine Ct.of (own := RX4) (nm := "refusal") (lv := [(0, .ref y0), (1, .int (n)), (2, .int (if P then 1 else 0))]) (by decide) rfl rfl (Nat.le_of_ble_eq_true rfl) rfl ?_
  refine v_aload_n (pc := 0) 0 dX4_refusal_0 rfl rfl ?_
  refine gf_240 (pc := 1) 0 dX4_refusal_1 rfl rfl ?_
  refine v_iload_n (pc := 4) 1 dX4_refusal_4 rfl rfl ?_
  refine v_callV (pc := 5) (rest := []) [1] 1 lk_462 (c_X2_hasNote l E a0 ao aw an ab av nt pp rl hm sp td dt n) dX4_refusal_5 rfl rfl (Nat.le_of_ble_eq_true rfl) (by decide) rfl rfl rfl (by decide) rfl (Rt.len rfl) (Rt.go ?_)
  refine v_w (ws' := [(y0, .inr (4, [.ref a0, .ref yi, .ref yk, .ref l0, .ref t0, .ref yn, .ref yt, .int (nI se), .ref ys, .int (tn), .ref ym])), (a0, .inr (2, [.int (nI nt), .int (nI pp), .int (nI rl), .int (hm), .int (sp), .int (td), .int (dt), .ref ao, .ref aw, .ref an, .ref ab, .ref av]))]) rfl ?_
  refine v_st (st' := [.int (if okN n nt then 1 else 0)]) rfl ?_
  refine v_ifB_ne (pc := 8) 13 dX4_refusal_8 (by decide) (fun c_8 => ?_) (fun c_8 => ?_)
  · skip
    refine v_iload_n (pc := 13) 2 dX4_refusal_13 rfl rfl ?_
    refine v_ifB_eq (pc := 14) 37 dX4_refusal_14 (by decide) (fun c_14 => ?_) (fun c_14 => ?_)
    · skip
      refine v_iconst (pc := 37) (v := 0) dX4_refusal_37 (by decide) ?_
      refine v_iret (pc := 38) dX4_refusal_38 rfl ⟨rfl, rfl⟩ (Rt.i ?_)
      unfold refu; rw [if_pos c_8, if_neg (fun q => c_14 q.1)]
    · skip
      refine v_aload_n (pc := 17) 0 dX4_refusal_17 rfl rfl ?_
      refine gf_240 (pc := 18) 0 dX4_refusal_18 rfl rfl ?_
      refine gf_104 (pc := 21) 1 dX4_refusal_21 rfl rfl ?_
      refine v_iload_n (pc := 24) 1 dX4_refusal_24 rfl rfl ?_
      refine v_callS (pc := 25) (rest := []) [] lk_474 (c_X4_bitOf l E sp n) dX4_refusal_25 rfl rfl (Nat.le_of_ble_eq_true rfl) (by decide) (by decide) rfl (Rt.len rfl) (Rt.go ?_)
      refine v_w (ws' := [(y0, .inr (4, [.ref a0, .ref yi, .ref yk, .ref l0, .ref t0, .ref yn, .ref yt, .int (nI se), .ref ys, .int (tn), .ref ym])), (a0, .inr (2, [.int (nI nt), .int (nI pp), .int (nI rl), .int (hm), .int (sp), .int (td), .int (dt), .ref ao, .ref aw, .ref an, .ref ab, .ref av]))]) rfl ?_
      refine v_st (st' := [.int (bt1 sp n)]) rfl ?_
      refine v_iconst (pc := 28) (v := 1) dX4_refusal_28 (by decide) ?_
      refine v_icmp_ne (pc := 29) 37 dX4_refusal_29 (by decide) (fun c_29 => ?_) (fun c_29 => ?_)
      · skip
        refine v_iconst (pc := 37) (v := 0) dX4_refusal_37 (by decide) ?_
        refine v_iret (pc := 38) dX4_refusal_38 rfl ⟨rfl, rfl⟩ (Rt.i ?_)
        unfold refu; rw [if_pos c_8, if_neg (fun q => c_29 q.2)]
      · skip
        refine v_bipush (pc := 32) (v := -2) dX4_refusal_32 (by decide) ?_
        refine v_goto (pc := 34) 38 dX4_refusal_34 (by decide) ?_
        refine v_iret (pc := 38) dX4_refusal_38 rfl ⟨rfl, rfl⟩ (Rt.i ?_)
        unfold refu; rw [if_pos c_8, if_pos ⟨c_14, c_29⟩]
  · skip
    refine v_iconst (pc := 11) (v := -1) dX4_refusal_11 (by decide) ?_
    refine v_iret (pc := 12) dX4_refusal_12 rfl ⟨rfl, rfl⟩ (Rt.i ?_)
    unfold refu; rw [if_neg c_8]
theorem c_X4_write (l : Launch) (E : VE) (y0 : Nat) (yi : Nat) (yk : Nat) (t0 : Nat) (yn : Nat) (yt : Nat) (ys : Nat) (ym : Nat) (se : Nat) (tn : Int32) (l0 : Nat) (a0 : Nat) (ao : Nat) (aw : Nat) (an : Nat) (ab : Nat) (av : Nat) (nt : Nat) (pp : Nat) (rl : Nat) (hm : Int32) (sp : Int32) (td : Int32) (dt : Int32) (n : Int32) (P : Prop) (dP : Decidable P) : Ct l E yX4_write cX4_write 5 (Option.some FieldType.int) 2 43 0 0 [.ref y0, .int (n), .int (if P then 1 else 0)] [(y0, .inr (4, [.ref a0, .ref yi, .ref yk, .ref l0, .ref t0, .ref yn, .ref yt, .int (nI se), .ref ys, .int (tn), .ref ym])), (a0, .inr (2, [.int (nI nt), .int (nI pp), .int (nI rl), .int (hm), .int (sp), .int (td), .int (dt), .ref ao, .ref aw, .ref an, .ref ab, .ref av]))] (Rt (some (.int (if refu nt sp n P = 0 then bt1 td n else refu nt sp n P))) [(y0, .inr (4, [.ref a0, .ref yi, .ref yk, .ref l0, .ref t0, .ref yn, .ref yt, .int (nI se), .ref ys, .int (tn), .ref ym])), (a0, .inr (2, [.int (nI nt), .int (nI pp), .int (nI rl), .int (hm), .int (sp), .int (if refu nt sp n P = 0 then wb td n P else td), .int (dt), .ref ao, .ref aw, .ref an, .ref ab, .ref av]))]) := by
  refine Ct.of (own := RX4) (nm := "write") (lv := [(0, .ref y0), (1, .int (n)), (2, .int (if P then 1 else 0))]) (by decide) rfl rfl (Nat.le_of_ble_eq_true rfl) rfl ?_
  refine v_aload_n (pc := 0) 0 dX4_write_0 rfl rfl ?_
  refine v_iload_n (pc := 1) 1 dX4_write_1 rfl rfl ?_
  refine v_iload_n (pc := 2) 2 dX4_write_2 rfl rfl ?_
  refine v_callV (pc := 3) (rest := []) [0, 1] 0 lk_470 (c_X4_refusal l E y0 yi yk t0 yn yt ys ym se tn l0 a0 ao aw an ab av nt pp rl hm sp td dt n P inferInstance) dX4_write_3 rfl rfl (Nat.le_of_ble_eq_true rfl) (by decide) rfl rfl rfl (by decide) rfl (Rt.len rfl) (Rt.go ?_)
  refine v_w (ws' := [(y0, .inr (4, [.ref a0, .ref yi, .ref yk, .ref l0, .ref t0, .ref yn, .ref yt, .int (nI se), .ref ys, .int (tn), .ref ym])), (a0, .inr (2, [.int (nI nt), .int (nI pp), .int (nI rl), .int (hm), .int (sp), .int (td), .int (dt), .ref ao, .ref aw, .ref an, .ref ab, .ref av]))]) rfl ?_
  refine v_st (st' := [.int (refu nt sp n P)]) rfl ?_
  refine v_istore_n (pc := 6) (lv' := [(3, .int (refu nt sp n P)), (0, .ref y0), (1, .int (n)), (2, .int (if P then 1 else 0))]) dX4_write_6 rfl (by decide) rfl ?_
  refine v_iload_n (pc := 7) 0 dX4_write_7 rfl rfl ?_
  refine v_if_eq (pc := 8) 13 dX4_write_8 (by decide) (fun c_8 => ?_) (fun c_8 => ?_)
  · skip
    refine v_aload_n (pc := 13) 1 dX4_write_13 rfl rfl ?_
    refine gf_240 (pc := 14) 0 dX4_write_14 rfl rfl ?_
    refine gf_107 (pc := 17) 1 dX4_write_17 rfl rfl ?_
    refine v_iload_n (pc := 20) 2 dX4_write_20 rfl rfl ?_
    refine v_callS (pc := 21) (rest := []) [] lk_474 (c_X4_bitOf l E td n) dX4_write_21 rfl rfl (Nat.le_of_ble_eq_true rfl) (by decide) (by decide) rfl (Rt.len rfl) (Rt.go ?_)
    refine v_w (ws' := [(y0, .inr (4, [.ref a0, .ref yi, .ref yk, .ref l0, .ref t0, .ref yn, .ref yt, .int (nI se), .ref ys, .int (tn), .ref ym])), (a0, .inr (2, [.int (nI nt), .int (nI pp), .int (nI rl), .int (hm), .int (sp), .int (td), .int (dt), .ref ao, .ref aw, .ref an, .ref ab, .ref av]))]) rfl ?_
    refine v_st (st' := [.int (bt1 td n)]) rfl ?_
    refine v_istore (pc := 24) (lv' := [(4, .int (bt1 td n)), (3, .int (refu nt sp n P)), (0, .ref y0), (1, .int (n)), (2, .int (if P then 1 else 0))]) dX4_write_24 (by decide) rfl ?_
    refine v_aload_n (pc := 26) 2 dX4_write_26 rfl rfl ?_
    refine gf_240 (pc := 27) 0 dX4_write_27 rfl rfl ?_
    refine v_aload_n (pc := 30) 2 dX4_write_30 rfl rfl ?_
    refine gf_240 (pc := 31) 0 dX4_write_31 rfl rfl ?_
    refine gf_107 (pc := 34) 1 dX4_write_34 rfl rfl ?_
    refine v_iload_n (pc := 37) 3 dX4_write_37 rfl rfl ?_
    refine v_iload_n (pc := 38) 4 dX4_write_38 rfl rfl ?_
    refine v_callS (pc := 39) (rest := [.ref a0]) [] lk_475 (c_X4_withBit l E td n P inferInstance) dX4_write_39 rfl rfl (Nat.le_of_ble_eq_true rfl) (by decide) (by decide) rfl (Rt.len rfl) (Rt.go ?_)
    refine v_w (ws' := [(y0, .inr (4, [.ref a0, .ref yi, .ref yk, .ref l0, .ref t0, .ref yn, .ref yt, .int (nI se), .ref ys, .int (tn), .ref ym])), (a0, .inr (2, [.int (nI nt), .int (nI pp), .int (nI rl), .int (hm), .int (sp), .int (td), .int (dt), .ref ao, .ref aw, .ref an, .ref ab, .ref av]))]) rfl ?_
    refine v_st (st' := [.int (wb td n P), .ref a0]) rfl ?_
    refine pf_107 (pc := 42) (ws' := [(y0, .inr (4, [.ref a0, .ref yi, .ref yk, .ref l0, .ref t0, .ref yn, .ref yt, .int (nI se), .ref ys, .int (tn), .ref ym])), (a0, .inr (2, [.int (nI nt), .int (nI pp), .int (nI rl), .int (hm), .int (sp), .int (wb td n P), .int (dt), .ref ao, .ref aw, .ref an, .ref ab, .ref av]))]) 1 dX4_write_42 rfl rfl rfl (Nat.le_of_ble_eq_true rfl) rfl ?_
    refine v_iload (pc := 45) 0 dX4_write_45 rfl ?_
    refine v_iret (pc := 47) dX4_write_47 rfl ⟨rfl, rfl⟩ (Rt.i2 ?_ ?_)
    · skip
      first | simp only [if_pos c_8] | rfl
    · skip
      first | simp only [if_pos c_8] | rfl
  · skip
    refine v_iload_n (pc := 11) 0 dX4_write_11 rfl rfl ?_
    refine v_iret (pc := 12) dX4_write_12 rfl ⟨rfl, rfl⟩ (Rt.i2 ?_ ?_)
    · skip
      first | simp only [if_neg c_8] | rfl
    · skip
      first | simp only [if_neg c_8] | rfl
theorem c_X4_home (l : Launch) (E : VE) (y0 : Nat) (yi : Nat) (yk : Nat) (t0 : Nat) (yn : Nat) (yt : Nat) (ys : Nat) (ym : Nat) (se : Nat) (tn : Int32) (l0 : Nat) (a0 : Nat) (ao : Nat) (aw : Nat) (an : Nat) (ab : Nat) (av : Nat) (nt : Nat) (pp : Nat) (rl : Nat) (hm : Int32) (sp : Int32) (td : Int32) (dt : Int32) (p : Int32) (P : Prop) (dP : Decidable P) : Ct l E yX4_home cX4_home 4 (Option.some FieldType.int) 1 22 0 0 [.ref y0, .int (p), .int (if P then 1 else 0)] [(y0, .inr (4, [.ref a0, .ref yi, .ref yk, .ref l0, .ref t0, .ref yn, .ref yt, .int (nI se), .ref ys, .int (tn), .ref ym])), (a0, .inr (2, [.int (nI nt), .int (nI pp), .int (nI rl), .int (hm), .int (sp), .int (td), .int (dt), .ref ao, .ref aw, .ref an, .ref ab, .ref av]))] (Rt (some (.int (if p < 0 then -1 else if p < nI pp then bt1 hm p else -1))) [(y0, .inr (4, [.ref a0, .ref yi, .ref yk, .ref l0, .ref t0, .ref yn, .ref yt, .int (nI se), .ref ys, .int (tn), .ref ym])), (a0, .inr (2, [.int (nI nt), .int (nI pp), .int (nI rl), .int (if p < 0 then hm else if p < nI pp then wb hm p P else hm), .int (sp), .int (td), .int (dt), .ref ao, .ref aw, .ref an, .ref ab, .ref av]))]) := by
  refine Ct.of (own := RX4) (nm := "home") (lv := [(0, .ref y0), (1, .int (p)), (2, .int (if P then 1 else 0))]) (by decide) rfl rfl (Nat.le_of_ble_eq_true rfl) rfl ?_
  refine v_iload_n (pc := 0) 1 dX4_home_0 rfl rfl ?_
  refine v_if_lt (pc := 1) 15 dX4_home_1 (by decide) (fun c_1 => ?_) (fun c_1 => ?_)
  · skip
    refine v_iconst (pc := 15) (v := -1) dX4_home_15 (by decide) ?_
    refine v_iret (pc := 16) dX4_home_16 rfl ⟨rfl, rfl⟩ (Rt.i2 ?_ ?_)
    · skip
      first | simp only [if_pos c_1] | rfl
    · skip
      first | simp only [if_pos c_1] | rfl
  · skip
    refine v_iload_n (pc := 4) 1 dX4_home_4 rfl rfl ?_
    refine v_aload_n (pc := 5) 0 dX4_home_5 rfl rfl ?_
    refine gf_240 (pc := 6) 0 dX4_home_6 rfl rfl ?_
    refine gf_93 (pc := 9) 1 dX4_home_9 rfl rfl ?_
    refine v_icmp_lt (pc := 12) 17 dX4_home_12 (by decide) (fun c_12 => ?_) (fun c_12 => ?_)
    · skip
      refine v_aload_n (pc := 17) 0 dX4_home_17 rfl rfl ?_
      refine gf_240 (pc := 18) 0 dX4_home_18 rfl rfl ?_
      refine gf_100 (pc := 21) 1 dX4_home_21 rfl rfl ?_
      refine v_iload_n (pc := 24) 1 dX4_home_24 rfl rfl ?_
      refine v_callS (pc := 25) (rest := []) [] lk_474 (c_X4_bitOf l E hm p) dX4_home_25 rfl rfl (Nat.le_of_ble_eq_true rfl) (by decide) (by decide) rfl (Rt.len rfl) (Rt.go ?_)
      refine v_w (ws' := [(y0, .inr (4, [.ref a0, .ref yi, .ref yk, .ref l0, .ref t0, .ref yn, .ref yt, .int (nI se), .ref ys, .int (tn), .ref ym])), (a0, .inr (2, [.int (nI nt), .int (nI pp), .int (nI rl), .int (hm), .int (sp), .int (td), .int (dt), .ref ao, .ref aw, .ref an, .ref ab, .ref av]))]) rfl ?_
      refine v_st (st' := [.int (bt1 hm p)]) rfl ?_
      refine v_istore_n (pc := 28) (lv' := [(3, .int (bt1 hm p)), (0, .ref y0), (1, .int (p)), (2, .int (if P then 1 else 0))]) dX4_home_28 rfl (by decide) rfl ?_
      refine v_aload_n (pc := 29) 1 dX4_home_29 rfl rfl ?_
      refine gf_240 (pc := 30) 0 dX4_home_30 rfl rfl ?_
      refine v_aload_n (pc := 33) 1 dX4_home_33 rfl rfl ?_
      refine gf_240 (pc := 34) 0 dX4_home_34 rfl rfl ?_
      refine gf_100 (pc := 37) 1 dX4_home_37 rfl rfl ?_
      refine v_iload_n (pc := 40) 2 dX4_home_40 rfl rfl ?_
      refine v_iload_n (pc := 41) 3 dX4_home_41 rfl rfl ?_
      refine v_callS (pc := 42) (rest := [.ref a0]) [] lk_475 (c_X4_withBit l E hm p P inferInstance) dX4_home_42 rfl rfl (Nat.le_of_ble_eq_true rfl) (by decide) (by decide) rfl (Rt.len rfl) (Rt.go ?_)
      refine v_w (ws' := [(y0, .inr (4, [.ref a0, .ref yi, .ref yk, .ref l0, .ref t0, .ref yn, .ref yt, .int (nI se), .ref ys, .int (tn), .ref ym])), (a0, .inr (2, [.int (nI nt), .int (nI pp), .int (nI rl), .int (hm), .int (sp), .int (td), .int (dt), .ref ao, .ref aw, .ref an, .ref ab, .ref av]))]) rfl ?_
      refine v_st (st' := [.int (wb hm p P), .ref a0]) rfl ?_
      refine pf_100 (pc := 45) (ws' := [(y0, .inr (4, [.ref a0, .ref yi, .ref yk, .ref l0, .ref t0, .ref yn, .ref yt, .int (nI se), .ref ys, .int (tn), .ref ym])), (a0, .inr (2, [.int (nI nt), .int (nI pp), .int (nI rl), .int (wb hm p P), .int (sp), .int (td), .int (dt), .ref ao, .ref aw, .ref an, .ref ab, .ref av]))]) 1 dX4_home_45 rfl rfl rfl (Nat.le_of_ble_eq_true rfl) rfl ?_
      refine v_iload_n (pc := 48) 0 dX4_home_48 rfl rfl ?_
      refine v_iret (pc := 49) dX4_home_49 rfl ⟨rfl, rfl⟩ (Rt.i2 ?_ ?_)
      · skip
        first | simp only [if_neg c_1, if_pos c_12] | rfl
      · skip
        first | simp only [if_neg c_1, if_pos c_12] | rfl
    · skip
      refine v_iconst (pc := 15) (v := -1) dX4_home_15 (by decide) ?_
      refine v_iret (pc := 16) dX4_home_16 rfl ⟨rfl, rfl⟩ (Rt.i2 ?_ ?_)
      · skip
        first | simp only [if_neg c_1, if_neg c_12] | rfl
      · skip
        first | simp only [if_neg c_1, if_neg c_12] | rfl
theorem c_X4_stop (l : Launch) (E : VE) (y0 : Nat) (yi : Nat) (yk : Nat) (t0 : Nat) (yn : Nat) (yt : Nat) (ys : Nat) (ym : Nat) (se : Nat) (tn : Int32) (l0 : Nat) (a0 : Nat) (ao : Nat) (aw : Nat) (an : Nat) (ab : Nat) (av : Nat) (nt : Nat) (pp : Nat) (rl : Nat) (hm : Int32) (sp : Int32) (td : Int32) (dt : Int32) (n : Int32) (P : Prop) (dP : Decidable P) : Ct l E yX4_stop cX4_stop 4 (Option.some FieldType.int) 1 22 0 0 [.ref y0, .int (n), .int (if P then 1 else 0)] [(y0, .inr (4, [.ref a0, .ref yi, .ref yk, .ref l0, .ref t0, .ref yn, .ref yt, .int (nI se), .ref ys, .int (tn), .ref ym])), (a0, .inr (2, [.int (nI nt), .int (nI pp), .int (nI rl), .int (hm), .int (sp), .int (td), .int (dt), .ref ao, .ref aw, .ref an, .ref ab, .ref av]))] (Rt (some (.int (if okN n nt then bt1 sp n else -1))) [(y0, .inr (4, [.ref a0, .ref yi, .ref yk, .ref l0, .ref t0, .ref yn, .ref yt, .int (nI se), .ref ys, .int (tn), .ref ym])), (a0, .inr (2, [.int (nI nt), .int (nI pp), .int (nI rl), .int (hm), .int (if okN n nt then wb sp n P else sp), .int (td), .int (dt), .ref ao, .ref aw, .ref an, .ref ab, .ref av]))]) := by
  refine Ct.of (own := RX4) (nm := "stop") (lv := [(0, .ref y0), (1, .int (n)), (2, .int (if P then 1 else 0))]) (by decide) rfl rfl (Nat.le_of_ble_eq_true rfl) rfl ?_
  refine v_aload_n (pc := 0) 0 dX4_stop_0 rfl rfl ?_
  refine gf_240 (pc := 1) 0 dX4_stop_1 rfl rfl ?_
  refine v_iload_n (pc := 4) 1 dX4_stop_4 rfl rfl ?_
  refine v_callV (pc := 5) (rest := []) [1] 1 lk_462 (c_X2_hasNote l E a0 ao aw an ab av nt pp rl hm sp td dt n) dX4_stop_5 rfl rfl (Nat.le_of_ble_eq_true rfl) (by decide) rfl rfl rfl (by decide) rfl (Rt.len rfl) (Rt.go ?_)
  refine v_w (ws' := [(y0, .inr (4, [.ref a0, .ref yi, .ref yk, .ref l0, .ref t0, .ref yn, .ref yt, .int (nI se), .ref ys, .int (tn), .ref ym])), (a0, .inr (2, [.int (nI nt), .int (nI pp), .int (nI rl), .int (hm), .int (sp), .int (td), .int (dt), .ref ao, .ref aw, .ref an, .ref ab, .ref av]))]) rfl ?_
  refine v_st (st' := [.int (if okN n nt then 1 else 0)]) rfl ?_
  refine v_ifB_ne (pc := 8) 13 dX4_stop_8 (by decide) (fun c_8 => ?_) (fun c_8 => ?_)
  · skip
    refine v_aload_n (pc := 13) 0 dX4_stop_13 rfl rfl ?_
    refine gf_240 (pc := 14) 0 dX4_stop_14 rfl rfl ?_
    refine gf_104 (pc := 17) 1 dX4_stop_17 rfl rfl ?_
    refine v_iload_n (pc := 20) 1 dX4_stop_20 rfl rfl ?_
    refine v_callS (pc := 21) (rest := []) [] lk_474 (c_X4_bitOf l E sp n) dX4_stop_21 rfl rfl (Nat.le_of_ble_eq_true rfl) (by decide) (by decide) rfl (Rt.len rfl) (Rt.go ?_)
    refine v_w (ws' := [(y0, .inr (4, [.ref a0, .ref yi, .ref yk, .ref l0, .ref t0, .ref yn, .ref yt, .int (nI se), .ref ys, .int (tn), .ref ym])), (a0, .inr (2, [.int (nI nt), .int (nI pp), .int (nI rl), .int (hm), .int (sp), .int (td), .int (dt), .ref ao, .ref aw, .ref an, .ref ab, .ref av]))]) rfl ?_
    refine v_st (st' := [.int (bt1 sp n)]) rfl ?_
    refine v_istore_n (pc := 24) (lv' := [(3, .int (bt1 sp n)), (0, .ref y0), (1, .int (n)), (2, .int (if P then 1 else 0))]) dX4_stop_24 rfl (by decide) rfl ?_
    refine v_aload_n (pc := 25) 1 dX4_stop_25 rfl rfl ?_
    refine gf_240 (pc := 26) 0 dX4_stop_26 rfl rfl ?_
    refine v_aload_n (pc := 29) 1 dX4_stop_29 rfl rfl ?_
    refine gf_240 (pc := 30) 0 dX4_stop_30 rfl rfl ?_
    refine gf_104 (pc := 33) 1 dX4_stop_33 rfl rfl ?_
    refine v_iload_n (pc := 36) 2 dX4_stop_36 rfl rfl ?_
    refine v_iload_n (pc := 37) 3 dX4_stop_37 rfl rfl ?_
    refine v_callS (pc := 38) (rest := [.ref a0]) [] lk_475 (c_X4_withBit l E sp n P inferInstance) dX4_stop_38 rfl rfl (Nat.le_of_ble_eq_true rfl) (by decide) (by decide) rfl (Rt.len rfl) (Rt.go ?_)
    refine v_w (ws' := [(y0, .inr (4, [.ref a0, .ref yi, .ref yk, .ref l0, .ref t0, .ref yn, .ref yt, .int (nI se), .ref ys, .int (tn), .ref ym])), (a0, .inr (2, [.int (nI nt), .int (nI pp), .int (nI rl), .int (hm), .int (sp), .int (td), .int (dt), .ref ao, .ref aw, .ref an, .ref ab, .ref av]))]) rfl ?_
    refine v_st (st' := [.int (wb sp n P), .ref a0]) rfl ?_
    refine pf_104 (pc := 41) (ws' := [(y0, .inr (4, [.ref a0, .ref yi, .ref yk, .ref l0, .ref t0, .ref yn, .ref yt, .int (nI se), .ref ys, .int (tn), .ref ym])), (a0, .inr (2, [.int (nI nt), .int (nI pp), .int (nI rl), .int (hm), .int (wb sp n P), .int (td), .int (dt), .ref ao, .ref aw, .ref an, .ref ab, .ref av]))]) 1 dX4_stop_41 rfl rfl rfl (Nat.le_of_ble_eq_true rfl) rfl ?_
    refine v_iload_n (pc := 44) 0 dX4_stop_44 rfl rfl ?_
    refine v_iret (pc := 45) dX4_stop_45 rfl ⟨rfl, rfl⟩ (Rt.i2 ?_ ?_)
    · skip
      first | simp only [if_pos c_8] | rfl
    · skip
      first | simp only [if_pos c_8] | rfl
  · skip
    refine v_iconst (pc := 11) (v := -1) dX4_stop_11 (by decide) ?_
    refine v_iret (pc := 12) dX4_stop_12 rfl ⟨rfl, rfl⟩ (Rt.i2 ?_ ?_)
    · skip
      first | simp only [if_neg c_8] | rfl
    · skip
      first | simp only [if_neg c_8] | rfl
theorem c_X4_change (l : Launch) (E : VE) (y0 : Nat) (yi : Nat) (yk : Nat) (t0 : Nat) (yn : Nat) (yt : Nat) (ys : Nat) (ym : Nat) (se : Nat) (tn : Int32) (l0 : Nat) (a0 : Nat) (ao : Nat) (aw : Nat) (an : Nat) (ab : Nat) (av : Nat) (nt : Nat) (pp : Nat) (rl : Nat) (hm : Int32) (sp : Int32) (td : Int32) (dt : Int32) (r1 : Nat) (r2 : Nat) (f : Nat → Int32) (g : Nat → Int32) (k : Int32) (n : Int32) (P : Prop) (dP : Decidable P) (h_rl : rl ≤ 8) : Ct l E yX4_change cX4_change 7 (Option.some FieldType.int) 1 22 0 0 [.ref y0, .ref r1, .ref r2, .int (k), .int (n), .int (if P then 1 else 0)] [(y0, .inr (4, [.ref a0, .ref yi, .ref yk, .ref l0, .ref t0, .ref yn, .ref yt, .int (nI se), .ref ys, .int (tn), .ref ym])), (a0, .inr (2, [.int (nI nt), .int (nI pp), .int (nI rl), .int (hm), .int (sp), .int (td), .int (dt), .ref ao, .ref aw, .ref an, .ref ab, .ref av])), (r1, .inl (E.2.1 1, 8, .inl (f))), (r2, .inl (E.2.1 1, 8, .inl (g)))] (Rt (some (.int (chgR rl nt f g k n P))) [(y0, .inr (4, [.ref a0, .ref yi, .ref yk, .ref l0, .ref t0, .ref yn, .ref yt, .int (nI se), .ref ys, .int (tn), .ref ym])), (a0, .inr (2, [.int (nI nt), .int (nI pp), .int (nI rl), .int (hm), .int (sp), .int (td), .int (dt), .ref ao, .ref aw, .ref an, .ref ab, .ref av])), (r1, .inl (E.2.1 1, 8, .inl (chgF rl nt f g k n P))), (r2, .inl (E.2.1 1, 8, .inl (g)))]) := by
  refine Ct.of (own := RX4) (nm := "change") (lv := [(0, .ref y0), (1, .ref r1), (2, .ref r2), (3, .int (k)), (4, .int (n)), (5, .int (if P then 1 else 0))]) (by decide) rfl rfl (Nat.le_of_ble_eq_true rfl) rfl ?_
  refine v_aload_n (pc := 0) 0 dX4_change_0 rfl rfl ?_
  refine gf_240 (pc := 1) 0 dX4_change_1 rfl rfl ?_
  refine v_iload_n (pc := 4) 3 dX4_change_4 rfl rfl ?_
  refine v_callV (pc := 5) (rest := []) [1] 1 lk_449 (c_X2_hasRule l E a0 ao aw an ab av nt pp rl hm sp td dt k) dX4_change_5 rfl rfl (Nat.le_of_ble_eq_true rfl) (by decide) rfl rfl rfl (by decide) rfl (Rt.len rfl) (Rt.go ?_)
  refine v_w (ws' := [(y0, .inr (4, [.ref a0, .ref yi, .ref yk, .ref l0, .ref t0, .ref yn, .ref yt, .int (nI se), .ref ys, .int (tn), .ref ym])), (a0, .inr (2, [.int (nI nt), .int (nI pp), .int (nI rl), .int (hm), .int (sp), .int (td), .int (dt), .ref ao, .ref aw, .ref an, .ref ab, .ref av])), (r1, .inl (E.2.1 1, 8, .inl (f))), (r2, .inl (E.2.1 1, 8, .inl (g)))]) rfl ?_
  refine v_st (st' := [.int (if okN k rl then 1 else 0)]) rfl ?_
  refine v_ifB_eq (pc := 8) 23 dX4_change_8 (by decide) (fun c_8 => ?_) (fun c_8 => ?_)
  · skip
    refine v_iconst (pc := 23) (v := -1) dX4_change_23 (by decide) ?_
    refine v_iret (pc := 24) dX4_change_24 rfl ⟨rfl, rfl⟩ (Rt.i2 ?_ ?_)
    · skip
      unfold chgR; rw [if_neg c_8]
    · skip
      unfold chgF; rw [if_neg c_8]
  · skip
    refine v_aload_n (pc := 11) 0 dX4_change_11 rfl rfl ?_
    refine gf_240 (pc := 12) 0 dX4_change_12 rfl rfl ?_
    refine v_iload (pc := 15) 4 dX4_change_15 rfl ?_
    refine v_callV (pc := 17) (rest := []) [1] 1 lk_462 (c_X2_hasNote l E a0 ao aw an ab av nt pp rl hm sp td dt n) dX4_change_17 rfl rfl (Nat.le_of_ble_eq_true rfl) (by decide) rfl rfl rfl (by decide) rfl (Rt.len rfl) (Rt.go ?_)
    refine v_w (ws' := [(y0, .inr (4, [.ref a0, .ref yi, .ref yk, .ref l0, .ref t0, .ref yn, .ref yt, .int (nI se), .ref ys, .int (tn), .ref ym])), (a0, .inr (2, [.int (nI nt), .int (nI pp), .int (nI rl), .int (hm), .int (sp), .int (td), .int (dt), .ref ao, .ref aw, .ref an, .ref ab, .ref av])), (r1, .inl (E.2.1 1, 8, .inl (f))), (r2, .inl (E.2.1 1, 8, .inl (g)))]) rfl ?_
    refine v_st (st' := [.int (if okN n nt then 1 else 0)]) rfl ?_
    refine v_ifB_ne (pc := 20) 25 dX4_change_20 (by decide) (fun c_20 => ?_) (fun c_20 => ?_)
    · skip
      refine v_iload (pc := 25) 5 dX4_change_25 rfl ?_
      refine v_ifB_eq (pc := 27) 45 dX4_change_27 (by decide) (fun c_27 => ?_) (fun c_27 => ?_)
      · skip
        refine v_aload_n (pc := 45) 1 dX4_change_45 rfl rfl ?_
        refine v_iload_n (pc := 46) 3 dX4_change_46 rfl rfl ?_
        refine v_iald (pc := 47) 2 1 dX4_change_47 rfl rfl (in8 c_8 h_rl) ?_
        refine v_iload (pc := 48) 4 dX4_change_48 rfl ?_
        refine v_callS (pc := 50) (rest := []) [] lk_474 (c_X4_bitOf l E ((f) (Int32.toNatClampNeg (k))) n) dX4_change_50 rfl rfl (Nat.le_of_ble_eq_true rfl) (by decide) (by decide) rfl (Rt.len rfl) (Rt.go ?_)
        refine v_w (ws' := [(y0, .inr (4, [.ref a0, .ref yi, .ref yk, .ref l0, .ref t0, .ref yn, .ref yt, .int (nI se), .ref ys, .int (tn), .ref ym])), (a0, .inr (2, [.int (nI nt), .int (nI pp), .int (nI rl), .int (hm), .int (sp), .int (td), .int (dt), .ref ao, .ref aw, .ref an, .ref ab, .ref av])), (r1, .inl (E.2.1 1, 8, .inl (f))), (r2, .inl (E.2.1 1, 8, .inl (g)))]) rfl ?_
        refine v_st (st' := [.int (bt1 ((f) (Int32.toNatClampNeg (k))) n)]) rfl ?_
        refine v_istore (pc := 53) (lv' := [(6, .int (bt1 ((f) (Int32.toNatClampNeg (k))) n)), (0, .ref y0), (1, .ref r1), (2, .ref r2), (3, .int (k)), (4, .int (n)), (5, .int (if P then 1 else 0))]) dX4_change_53 (by decide) rfl ?_
        refine v_aload_n (pc := 55) 2 dX4_change_55 rfl rfl ?_
        refine v_iload_n (pc := 56) 4 dX4_change_56 rfl rfl ?_
        refine v_aload_n (pc := 57) 2 dX4_change_57 rfl rfl ?_
        refine v_iload_n (pc := 58) 4 dX4_change_58 rfl rfl ?_
        refine v_iald (pc := 59) 2 1 dX4_change_59 rfl rfl (in8 c_8 h_rl) ?_
        refine v_iload (pc := 60) 5 dX4_change_60 rfl ?_
        refine v_iload (pc := 62) 6 dX4_change_62 rfl ?_
        refine v_callS (pc := 64) (rest := [.int (k), .ref r1]) [] lk_475 (c_X4_withBit l E ((f) (Int32.toNatClampNeg (k))) n P inferInstance) dX4_change_64 rfl rfl (Nat.le_of_ble_eq_true rfl) (by decide) (by decide) rfl (Rt.len rfl) (Rt.go ?_)
        refine v_w (ws' := [(y0, .inr (4, [.ref a0, .ref yi, .ref yk, .ref l0, .ref t0, .ref yn, .ref yt, .int (nI se), .ref ys, .int (tn), .ref ym])), (a0, .inr (2, [.int (nI nt), .int (nI pp), .int (nI rl), .int (hm), .int (sp), .int (td), .int (dt), .ref ao, .ref aw, .ref an, .ref ab, .ref av])), (r1, .inl (E.2.1 1, 8, .inl (f))), (r2, .inl (E.2.1 1, 8, .inl (g)))]) rfl ?_
        refine v_st (st' := [.int (wb ((f) (Int32.toNatClampNeg (k))) n P), .int (k), .ref r1]) rfl ?_
        refine v_iast (pc := 67) (ws' := [(y0, .inr (4, [.ref a0, .ref yi, .ref yk, .ref l0, .ref t0, .ref yn, .ref yt, .int (nI se), .ref ys, .int (tn), .ref ym])), (a0, .inr (2, [.int (nI nt), .int (nI pp), .int (nI rl), .int (hm), .int (sp), .int (td), .int (dt), .ref ao, .ref aw, .ref an, .ref ab, .ref av])), (r1, .inl (E.2.1 1, 8, .inl (upd (f) (Int32.toNatClampNeg (k)) (wb ((f) (Int32.toNatClampNeg (k))) n P)))), (r2, .inl (E.2.1 1, 8, .inl (g)))]) 2 1 dX4_change_67 rfl rfl (in8 c_8 h_rl) rfl ?_
        refine v_iload (pc := 68) 0 dX4_change_68 rfl ?_
        refine v_iret (pc := 70) dX4_change_70 rfl ⟨rfl, rfl⟩ (Rt.i2 ?_ ?_)
        · skip
          unfold chgR; rw [if_pos c_8, if_pos c_20, if_neg (fun q => c_27 q.1)]
        · skip
          unfold chgF; rw [if_pos c_8, if_pos c_20, if_neg (fun q => c_27 q.1)]
      · skip
        refine v_aload_n (pc := 30) 2 dX4_change_30 rfl rfl ?_
        refine v_iload_n (pc := 31) 3 dX4_change_31 rfl rfl ?_
        refine v_iald (pc := 32) 3 1 dX4_change_32 rfl rfl (in8 c_8 h_rl) ?_
        refine v_iload (pc := 33) 4 dX4_change_33 rfl ?_
        refine v_callS (pc := 35) (rest := []) [] lk_474 (c_X4_bitOf l E ((g) (Int32.toNatClampNeg (k))) n) dX4_change_35 rfl rfl (Nat.le_of_ble_eq_true rfl) (by decide) (by decide) rfl (Rt.len rfl) (Rt.go ?_)
        refine v_w (ws' := [(y0, .inr (4, [.ref a0, .ref yi, .ref yk, .ref l0, .ref t0, .ref yn, .ref yt, .int (nI se), .ref ys, .int (tn), .ref ym])), (a0, .inr (2, [.int (nI nt), .int (nI pp), .int (nI rl), .int (hm), .int (sp), .int (td), .int (dt), .ref ao, .ref aw, .ref an, .ref ab, .ref av])), (r1, .inl (E.2.1 1, 8, .inl (f))), (r2, .inl (E.2.1 1, 8, .inl (g)))]) rfl ?_
        refine v_st (st' := [.int (bt1 ((g) (Int32.toNatClampNeg (k))) n)]) rfl ?_
        refine v_iconst (pc := 38) (v := 1) dX4_change_38 (by decide) ?_
        refine v_icmp_ne (pc := 39) 45 dX4_change_39 (by decide) (fun c_39 => ?_) (fun c_39 => ?_)
        · skip
          refine v_aload_n (pc := 45) 1 dX4_change_45 rfl rfl ?_
          refine v_iload_n (pc := 46) 3 dX4_change_46 rfl rfl ?_
          refine v_iald (pc := 47) 2 1 dX4_change_47 rfl rfl (in8 c_8 h_rl) ?_
          refine v_iload (pc := 48) 4 dX4_change_48 rfl ?_
          refine v_callS (pc := 50) (rest := []) [] lk_474 (c_X4_bitOf l E ((f) (Int32.toNatClampNeg (k))) n) dX4_change_50 rfl rfl (Nat.le_of_ble_eq_true rfl) (by decide) (by decide) rfl (Rt.len rfl) (Rt.go ?_)
          refine v_w (ws' := [(y0, .inr (4, [.ref a0, .ref yi, .ref yk, .ref l0, .ref t0, .ref yn, .ref yt, .int (nI se), .ref ys, .int (tn), .ref ym])), (a0, .inr (2, [.int (nI nt), .int (nI pp), .int (nI rl), .int (hm), .int (sp), .int (td), .int (dt), .ref ao, .ref aw, .ref an, .ref ab, .ref av])), (r1, .inl (E.2.1 1, 8, .inl (f))), (r2, .inl (E.2.1 1, 8, .inl (g)))]) rfl ?_
          refine v_st (st' := [.int (bt1 ((f) (Int32.toNatClampNeg (k))) n)]) rfl ?_
          refine v_istore (pc := 53) (lv' := [(6, .int (bt1 ((f) (Int32.toNatClampNeg (k))) n)), (0, .ref y0), (1, .ref r1), (2, .ref r2), (3, .int (k)), (4, .int (n)), (5, .int (if P then 1 else 0))]) dX4_change_53 (by decide) rfl ?_
          refine v_aload_n (pc := 55) 2 dX4_change_55 rfl rfl ?_
          refine v_iload_n (pc := 56) 4 dX4_change_56 rfl rfl ?_
          refine v_aload_n (pc := 57) 2 dX4_change_57 rfl rfl ?_
          refine v_iload_n (pc := 58) 4 dX4_change_58 rfl rfl ?_
          refine v_iald (pc := 59) 2 1 dX4_change_59 rfl rfl (in8 c_8 h_rl) ?_
          refine v_iload (pc := 60) 5 dX4_change_60 rfl ?_
          refine v_iload (pc := 62) 6 dX4_change_62 rfl ?_
          refine v_callS (pc := 64) (rest := [.int (k), .ref r1]) [] lk_475 (c_X4_withBit l E ((f) (Int32.toNatClampNeg (k))) n P inferInstance) dX4_change_64 rfl rfl (Nat.le_of_ble_eq_true rfl) (by decide) (by decide) rfl (Rt.len rfl) (Rt.go ?_)
          refine v_w (ws' := [(y0, .inr (4, [.ref a0, .ref yi, .ref yk, .ref l0, .ref t0, .ref yn, .ref yt, .int (nI se), .ref ys, .int (tn), .ref ym])), (a0, .inr (2, [.int (nI nt), .int (nI pp), .int (nI rl), .int (hm), .int (sp), .int (td), .int (dt), .ref ao, .ref aw, .ref an, .ref ab, .ref av])), (r1, .inl (E.2.1 1, 8, .inl (f))), (r2, .inl (E.2.1 1, 8, .inl (g)))]) rfl ?_
          refine v_st (st' := [.int (wb ((f) (Int32.toNatClampNeg (k))) n P), .int (k), .ref r1]) rfl ?_
          refine v_iast (pc := 67) (ws' := [(y0, .inr (4, [.ref a0, .ref yi, .ref yk, .ref l0, .ref t0, .ref yn, .ref yt, .int (nI se), .ref ys, .int (tn), .ref ym])), (a0, .inr (2, [.int (nI nt), .int (nI pp), .int (nI rl), .int (hm), .int (sp), .int (td), .int (dt), .ref ao, .ref aw, .ref an, .ref ab, .ref av])), (r1, .inl (E.2.1 1, 8, .inl (upd (f) (Int32.toNatClampNeg (k)) (wb ((f) (Int32.toNatClampNeg (k))) n P)))), (r2, .inl (E.2.1 1, 8, .inl (g)))]) 2 1 dX4_change_67 rfl rfl (in8 c_8 h_rl) rfl ?_
          refine v_iload (pc := 68) 0 dX4_change_68 rfl ?_
          refine v_iret (pc := 70) dX4_change_70 rfl ⟨rfl, rfl⟩ (Rt.i2 ?_ ?_)
          · skip
            unfold chgR; rw [if_pos c_8, if_pos c_20, if_neg (fun q => c_39 q.2)]
          · skip
            unfold chgF; rw [if_pos c_8, if_pos c_20, if_neg (fun q => c_39 q.2)]
        · skip
          refine v_bipush (pc := 42) (v := -2) dX4_change_42 (by decide) ?_
          refine v_iret (pc := 44) dX4_change_44 rfl ⟨rfl, rfl⟩ (Rt.i2 ?_ ?_)
          · skip
            unfold chgR; rw [if_pos c_8, if_pos c_20, if_pos ⟨c_27, c_39⟩]
          · skip
            unfold chgF; rw [if_pos c_8, if_pos c_20, if_pos ⟨c_27, c_39⟩]
    · skip
      refine v_iconst (pc := 23) (v := -1) dX4_change_23 (by decide) ?_
      refine v_iret (pc := 24) dX4_change_24 rfl ⟨rfl, rfl⟩ (Rt.i2 ?_ ?_)
      · skip
        unfold chgR; rw [if_pos c_8, if_neg c_20]
      · skip
        unfold chgF; rw [if_pos c_8, if_neg c_20]
theorem c_X4_need (l : Launch) (E : VE) (y0 : Nat) (yi : Nat) (yk : Nat) (t0 : Nat) (yn : Nat) (yt : Nat) (ys : Nat) (ym : Nat) (se : Nat) (tn : Int32) (l0 : Nat) (a0 : Nat) (ao : Nat) (aw : Nat) (an : Nat) (ab : Nat) (av : Nat) (nt : Nat) (pp : Nat) (rl : Nat) (hm : Int32) (sp : Int32) (td : Int32) (dt : Int32) (nd : Nat → Int32) (br : Nat → Int32) (k : Int32) (n : Int32) (P : Prop) (dP : Decidable P) (h_rl : rl ≤ 8) : Ct l E yX4_need cX4_need 4 (Option.some FieldType.int) 2 48 0 0 [.ref y0, .int (k), .int (n), .int (if P then 1 else 0)] [(y0, .inr (4, [.ref a0, .ref yi, .ref yk, .ref l0, .ref t0, .ref yn, .ref yt, .int (nI se), .ref ys, .int (tn), .ref ym])), (a0, .inr (2, [.int (nI nt), .int (nI pp), .int (nI rl), .int (hm), .int (sp), .int (td), .int (dt), .ref ao, .ref aw, .ref an, .ref ab, .ref av])), (an, .inl (E.2.1 1, 8, .inl (nd))), (ab, .inl (E.2.1 1, 8, .inl (br)))] (Rt (some (.int (chgR rl nt nd br k n P))) [(y0, .inr (4, [.ref a0, .ref yi, .ref yk, .ref l0, .ref t0, .ref yn, .ref yt, .int (nI se), .ref ys, .int (tn), .ref ym])), (a0, .inr (2, [.int (nI nt), .int (nI pp), .int (nI rl), .int (hm), .int (sp), .int (td), .int (dt), .ref ao, .ref aw, .ref an, .ref ab, .ref av])), (an, .inl (E.2.1 1, 8, .inl (chgF rl nt nd br k n P))), (ab, .inl (E.2.1 1, 8, .inl (br)))]) := by
  refine Ct.of (own := RX4) (nm := "need") (lv := [(0, .ref y0), (1, .int (k)), (2, .int (n)), (3, .int (if P then 1 else 0))]) (by decide) rfl rfl (Nat.le_of_ble_eq_true rfl) rfl ?_
  refine v_aload_n (pc := 0) 0 dX4_need_0 rfl rfl ?_
  refine v_aload_n (pc := 1) 0 dX4_need_1 rfl rfl ?_
  refine gf_240 (pc := 2) 0 dX4_need_2 rfl rfl ?_
  refine gf_119 (pc := 5) 1 dX4_need_5 rfl rfl ?_
  refine v_aload_n (pc := 8) 0 dX4_need_8 rfl rfl ?_
  refine gf_240 (pc := 9) 0 dX4_need_9 rfl rfl ?_
  refine gf_122 (pc := 12) 1 dX4_need_12 rfl rfl ?_
  refine v_iload_n (pc := 15) 1 dX4_need_15 rfl rfl ?_
  refine v_iload_n (pc := 16) 2 dX4_need_16 rfl rfl ?_
  refine v_iload_n (pc := 17) 3 dX4_need_17 rfl rfl ?_
  refine v_callV (pc := 18) (rest := []) [0, 1, 2, 3] 0 lk_490 (c_X4_change l E y0 yi yk t0 yn yt ys ym se tn l0 a0 ao aw an ab av nt pp rl hm sp td dt an ab nd br k n P inferInstance (by first | assumption | omega)) dX4_need_18 rfl rfl (Nat.le_of_ble_eq_true rfl) (by decide) rfl rfl rfl (by decide) rfl (Rt.len rfl) (Rt.go ?_)
  refine v_w (ws' := [(y0, .inr (4, [.ref a0, .ref yi, .ref yk, .ref l0, .ref t0, .ref yn, .ref yt, .int (nI se), .ref ys, .int (tn), .ref ym])), (a0, .inr (2, [.int (nI nt), .int (nI pp), .int (nI rl), .int (hm), .int (sp), .int (td), .int (dt), .ref ao, .ref aw, .ref an, .ref ab, .ref av])), (an, .inl (E.2.1 1, 8, .inl (chgF rl nt nd br k n P))), (ab, .inl (E.2.1 1, 8, .inl (br)))]) rfl ?_
  refine v_st (st' := [.int (chgR rl nt nd br k n P)]) rfl ?_
  refine v_iret (pc := 21) dX4_need_21 rfl ⟨rfl, rfl⟩ (Rt.i2 ?_ ?_)
  · skip
    rfl
  · skip
    rfl
theorem c_X4_bar (l : Launch) (E : VE) (y0 : Nat) (yi : Nat) (yk : Nat) (t0 : Nat) (yn : Nat) (yt : Nat) (ys : Nat) (ym : Nat) (se : Nat) (tn : Int32) (l0 : Nat) (a0 : Nat) (ao : Nat) (aw : Nat) (an : Nat) (ab : Nat) (av : Nat) (nt : Nat) (pp : Nat) (rl : Nat) (hm : Int32) (sp : Int32) (td : Int32) (dt : Int32) (nd : Nat → Int32) (br : Nat → Int32) (k : Int32) (n : Int32) (P : Prop) (dP : Decidable P) (h_rl : rl ≤ 8) : Ct l E yX4_bar cX4_bar 4 (Option.some FieldType.int) 2 48 0 0 [.ref y0, .int (k), .int (n), .int (if P then 1 else 0)] [(y0, .inr (4, [.ref a0, .ref yi, .ref yk, .ref l0, .ref t0, .ref yn, .ref yt, .int (nI se), .ref ys, .int (tn), .ref ym])), (a0, .inr (2, [.int (nI nt), .int (nI pp), .int (nI rl), .int (hm), .int (sp), .int (td), .int (dt), .ref ao, .ref aw, .ref an, .ref ab, .ref av])), (an, .inl (E.2.1 1, 8, .inl (nd))), (ab, .inl (E.2.1 1, 8, .inl (br)))] (Rt (some (.int (chgR rl nt br nd k n P))) [(y0, .inr (4, [.ref a0, .ref yi, .ref yk, .ref l0, .ref t0, .ref yn, .ref yt, .int (nI se), .ref ys, .int (tn), .ref ym])), (a0, .inr (2, [.int (nI nt), .int (nI pp), .int (nI rl), .int (hm), .int (sp), .int (td), .int (dt), .ref ao, .ref aw, .ref an, .ref ab, .ref av])), (an, .inl (E.2.1 1, 8, .inl (nd))), (ab, .inl (E.2.1 1, 8, .inl (chgF rl nt br nd k n P)))]) := by
  refine Ct.of (own := RX4) (nm := "bar") (lv := [(0, .ref y0), (1, .int (k)), (2, .int (n)), (3, .int (if P then 1 else 0))]) (by decide) rfl rfl (Nat.le_of_ble_eq_true rfl) rfl ?_
  refine v_aload_n (pc := 0) 0 dX4_bar_0 rfl rfl ?_
  refine v_aload_n (pc := 1) 0 dX4_bar_1 rfl rfl ?_
  refine gf_240 (pc := 2) 0 dX4_bar_2 rfl rfl ?_
  refine gf_122 (pc := 5) 1 dX4_bar_5 rfl rfl ?_
  refine v_aload_n (pc := 8) 0 dX4_bar_8 rfl rfl ?_
  refine gf_240 (pc := 9) 0 dX4_bar_9 rfl rfl ?_
  refine gf_119 (pc := 12) 1 dX4_bar_12 rfl rfl ?_
  refine v_iload_n (pc := 15) 1 dX4_bar_15 rfl rfl ?_
  refine v_iload_n (pc := 16) 2 dX4_bar_16 rfl rfl ?_
  refine v_iload_n (pc := 17) 3 dX4_bar_17 rfl rfl ?_
  refine v_callV (pc := 18) (rest := []) [0, 1, 3, 2] 0 lk_490 (c_X4_change l E y0 yi yk t0 yn yt ys ym se tn l0 a0 ao aw an ab av nt pp rl hm sp td dt ab an br nd k n P inferInstance (by first | assumption | omega)) dX4_bar_18 rfl rfl (Nat.le_of_ble_eq_true rfl) (by decide) rfl rfl rfl (by decide) rfl (Rt.len rfl) (Rt.go ?_)
  refine v_w (ws' := [(y0, .inr (4, [.ref a0, .ref yi, .ref yk, .ref l0, .ref t0, .ref yn, .ref yt, .int (nI se), .ref ys, .int (tn), .ref ym])), (a0, .inr (2, [.int (nI nt), .int (nI pp), .int (nI rl), .int (hm), .int (sp), .int (td), .int (dt), .ref ao, .ref aw, .ref an, .ref ab, .ref av])), (an, .inl (E.2.1 1, 8, .inl (nd))), (ab, .inl (E.2.1 1, 8, .inl (chgF rl nt br nd k n P)))]) rfl ?_
  refine v_st (st' := [.int (chgR rl nt br nd k n P)]) rfl ?_
  refine v_iret (pc := 21) dX4_bar_21 rfl ⟨rfl, rfl⟩ (Rt.i2 ?_ ?_)
  · skip
    rfl
  · skip
    rfl
theorem c_X4_pay (l : Launch) (E : VE) (y0 : Nat) (yi : Nat) (yk : Nat) (t0 : Nat) (yn : Nat) (yt : Nat) (ys : Nat) (ym : Nat) (se : Nat) (tn : Int32) (l0 : Nat) (a0 : Nat) (ao : Nat) (aw : Nat) (an : Nat) (ab : Nat) (av : Nat) (nt : Nat) (pp : Nat) (rl : Nat) (hm : Int32) (sp : Int32) (td : Int32) (dt : Int32) (wo : Nat → Int32) (n : Int32) (v : Int32) (h_nt : nt ≤ 6) : Ct l E yX4_pay cX4_pay 4 (Option.some FieldType.int) 1 21 0 0 [.ref y0, .int (n), .int (v)] [(y0, .inr (4, [.ref a0, .ref yi, .ref yk, .ref l0, .ref t0, .ref yn, .ref yt, .int (nI se), .ref ys, .int (tn), .ref ym])), (a0, .inr (2, [.int (nI nt), .int (nI pp), .int (nI rl), .int (hm), .int (sp), .int (td), .int (dt), .ref ao, .ref aw, .ref an, .ref ab, .ref av])), (av, .inl (E.2.1 1, 6, .inl (wo)))] (Rt (some (.int (if okN n nt then (if v < -9 then -1 else if v ≤ 9 then 100 + wo n.toNatClampNeg else -1) else -1))) [(y0, .inr (4, [.ref a0, .ref yi, .ref yk, .ref l0, .ref t0, .ref yn, .ref yt, .int (nI se), .ref ys, .int (tn), .ref ym])), (a0, .inr (2, [.int (nI nt), .int (nI pp), .int (nI rl), .int (hm), .int (sp), .int (td), .int (dt), .ref ao, .ref aw, .ref an, .ref ab, .ref av])), (av, .inl (E.2.1 1, 6, .inl (if okN n nt then (if v < -9 then wo else if v ≤ 9 then upd wo n.toNatClampNeg v else wo) else wo)))]) := by
  refine Ct.of (own := RX4) (nm := "pay") (lv := [(0, .ref y0), (1, .int (n)), (2, .int (v))]) (by decide) rfl rfl (Nat.le_of_ble_eq_true rfl) rfl ?_
  refine v_aload_n (pc := 0) 0 dX4_pay_0 rfl rfl ?_
  refine gf_240 (pc := 1) 0 dX4_pay_1 rfl rfl ?_
  refine v_iload_n (pc := 4) 1 dX4_pay_4 rfl rfl ?_
  refine v_callV (pc := 5) (rest := []) [1] 1 lk_462 (c_X2_hasNote l E a0 ao aw an ab av nt pp rl hm sp td dt n) dX4_pay_5 rfl rfl (Nat.le_of_ble_eq_true rfl) (by decide) rfl rfl rfl (by decide) rfl (Rt.len rfl) (Rt.go ?_)
  refine v_w (ws' := [(y0, .inr (4, [.ref a0, .ref yi, .ref yk, .ref l0, .ref t0, .ref yn, .ref yt, .int (nI se), .ref ys, .int (tn), .ref ym])), (a0, .inr (2, [.int (nI nt), .int (nI pp), .int (nI rl), .int (hm), .int (sp), .int (td), .int (dt), .ref ao, .ref aw, .ref an, .ref ab, .ref av])), (av, .inl (E.2.1 1, 6, .inl (wo)))]) rfl ?_
  refine v_st (st' := [.int (if okN n nt then 1 else 0)]) rfl ?_
  refine v_ifB_eq (pc := 8) 23 dX4_pay_8 (by decide) (fun c_8 => ?_) (fun c_8 => ?_)
  · skip
    refine v_iconst (pc := 23) (v := -1) dX4_pay_23 (by decide) ?_
    refine v_iret (pc := 24) dX4_pay_24 rfl ⟨rfl, rfl⟩ (Rt.i2 ?_ ?_)
    · skip
      first | simp only [if_neg c_8] | rfl
    · skip
      first | simp only [if_neg c_8] | rfl
  · skip
    refine v_iload_n (pc := 11) 2 dX4_pay_11 rfl rfl ?_
    refine v_bipush (pc := 12) (v := -9) dX4_pay_12 (by decide) ?_
    refine v_icmp_lt (pc := 14) 23 dX4_pay_14 (by decide) (fun c_14 => ?_) (fun c_14 => ?_)
    · skip
      refine v_iconst (pc := 23) (v := -1) dX4_pay_23 (by decide) ?_
      refine v_iret (pc := 24) dX4_pay_24 rfl ⟨rfl, rfl⟩ (Rt.i2 ?_ ?_)
      · skip
        first | simp only [if_pos c_8, if_pos c_14] | rfl
      · skip
        first | simp only [if_pos c_8, if_pos c_14] | rfl
    · skip
      refine v_iload_n (pc := 17) 2 dX4_pay_17 rfl rfl ?_
      refine v_bipush (pc := 18) (v := 9) dX4_pay_18 (by decide) ?_
      refine v_icmp_le (pc := 20) 25 dX4_pay_20 (by decide) (fun c_20 => ?_) (fun c_20 => ?_)
      · skip
        refine v_aload_n (pc := 25) 0 dX4_pay_25 rfl rfl ?_
        refine gf_240 (pc := 26) 0 dX4_pay_26 rfl rfl ?_
        refine gf_124 (pc := 29) 1 dX4_pay_29 rfl rfl ?_
        refine v_iload_n (pc := 32) 1 dX4_pay_32 rfl rfl ?_
        refine v_iald (pc := 33) 2 1 dX4_pay_33 rfl rfl (in6 c_8 h_nt) ?_
        refine v_istore_n (pc := 34) (lv' := [(3, .int ((wo) (Int32.toNatClampNeg (n)))), (0, .ref y0), (1, .int (n)), (2, .int (v))]) dX4_pay_34 rfl (by decide) rfl ?_
        refine v_aload_n (pc := 35) 1 dX4_pay_35 rfl rfl ?_
        refine gf_240 (pc := 36) 0 dX4_pay_36 rfl rfl ?_
        refine gf_124 (pc := 39) 1 dX4_pay_39 rfl rfl ?_
        refine v_iload_n (pc := 42) 2 dX4_pay_42 rfl rfl ?_
        refine v_iload_n (pc := 43) 3 dX4_pay_43 rfl rfl ?_
        refine v_iast (pc := 44) (ws' := [(y0, .inr (4, [.ref a0, .ref yi, .ref yk, .ref l0, .ref t0, .ref yn, .ref yt, .int (nI se), .ref ys, .int (tn), .ref ym])), (a0, .inr (2, [.int (nI nt), .int (nI pp), .int (nI rl), .int (hm), .int (sp), .int (td), .int (dt), .ref ao, .ref aw, .ref an, .ref ab, .ref av])), (av, .inl (E.2.1 1, 6, .inl (upd (wo) (Int32.toNatClampNeg (n)) (v))))]) 2 1 dX4_pay_44 rfl rfl (in6 c_8 h_nt) rfl ?_
        refine v_bipush (pc := 45) (v := 100) dX4_pay_45 (by decide) ?_
        refine v_iload_n (pc := 47) 0 dX4_pay_47 rfl rfl ?_
        refine v_iadd (pc := 48) dX4_pay_48 ?_
        refine v_iret (pc := 49) dX4_pay_49 rfl ⟨rfl, rfl⟩ (Rt.i2 ?_ ?_)
        · skip
          first | simp only [if_pos c_8, if_neg c_14, if_pos c_20] | rfl
        · skip
          first | simp only [if_pos c_8, if_neg c_14, if_pos c_20] | rfl
      · skip
        refine v_iconst (pc := 23) (v := -1) dX4_pay_23 (by decide) ?_
        refine v_iret (pc := 24) dX4_pay_24 rfl ⟨rfl, rfl⟩ (Rt.i2 ?_ ?_)
        · skip
          first | simp only [if_pos c_8, if_neg c_14, if_neg c_20] | rfl
        · skip
          first | simp only [if_pos c_8, if_neg c_14, if_neg c_20] | rfl
theorem c_X4_cut (l : Launch) (E : VE) (y0 : Nat) (yi : Nat) (yk : Nat) (t0 : Nat) (yn : Nat) (yt : Nat) (ys : Nat) (ym : Nat) (se : Nat) (tn : Int32) (l0 : Nat) (a0 : Nat) (ao : Nat) (aw : Nat) (an : Nat) (ab : Nat) (av : Nat) (nt : Nat) (pp : Nat) (rl : Nat) (hm : Int32) (sp : Int32) (td : Int32) (dt : Int32) (n : Int32) : Ct l E yX4_cut cX4_cut 3 (Option.some FieldType.int) 0 0 0 0 [.ref y0, .int (n)] [(y0, .inr (4, [.ref a0, .ref yi, .ref yk, .ref l0, .ref t0, .ref yn, .ref yt, .int (nI se), .ref ys, .int (tn), .ref ym])), (a0, .inr (2, [.int (nI nt), .int (nI pp), .int (nI rl), .int (hm), .int (sp), .int (td), .int (dt), .ref ao, .ref aw, .ref an, .ref ab, .ref av]))] (Rt (some (.int (if n < 0 then -1 else if n ≤ nI rl then nI rl else -1))) [(y0, .inr (4, [.ref a0, .ref yi, .ref yk, .ref l0, .ref t0, .ref yn, .ref yt, .int (nI se), .ref ys, .int (tn), .ref ym])), (a0, .inr (2, [.int (nI nt), .int (nI pp), .int (if n < 0 then nI rl else if n ≤ nI rl then n else nI rl), .int (hm), .int (sp), .int (td), .int (dt), .ref ao, .ref aw, .ref an, .ref ab, .ref av]))]) := by
  refine Ct.of (own := RX4) (nm := "cut") (lv := [(0, .ref y0), (1, .int (n))]) (by decide) rfl rfl (Nat.le_of_ble_eq_true rfl) rfl ?_
  refine v_iload_n (pc := 0) 1 dX4_cut_0 rfl rfl ?_
  refine v_if_lt (pc := 1) 15 dX4_cut_1 (by decide) (fun c_1 => ?_) (fun c_1 => ?_)
  · skip
    refine v_iconst (pc := 15) (v := -1) dX4_cut_15 (by decide) ?_
    refine v_iret (pc := 16) dX4_cut_16 rfl ⟨rfl, rfl⟩ (Rt.i2 ?_ ?_)
    · skip
      first | simp only [if_pos c_1] | rfl
    · skip
      first | simp only [if_pos c_1] | rfl
  · skip
    refine v_iload_n (pc := 4) 1 dX4_cut_4 rfl rfl ?_
    refine v_aload_n (pc := 5) 0 dX4_cut_5 rfl rfl ?_
    refine gf_240 (pc := 6) 0 dX4_cut_6 rfl rfl ?_
    refine gf_96 (pc := 9) 1 dX4_cut_9 rfl rfl ?_
    refine v_icmp_le (pc := 12) 17 dX4_cut_12 (by decide) (fun c_12 => ?_) (fun c_12 => ?_)
    · skip
      refine v_aload_n (pc := 17) 0 dX4_cut_17 rfl rfl ?_
      refine gf_240 (pc := 18) 0 dX4_cut_18 rfl rfl ?_
      refine gf_96 (pc := 21) 1 dX4_cut_21 rfl rfl ?_
      refine v_istore_n (pc := 24) (lv' := [(2, .int (nI rl)), (0, .ref y0), (1, .int (n))]) dX4_cut_24 rfl (by decide) rfl ?_
      refine v_aload_n (pc := 25) 1 dX4_cut_25 rfl rfl ?_
      refine gf_240 (pc := 26) 0 dX4_cut_26 rfl rfl ?_
      refine v_iload_n (pc := 29) 2 dX4_cut_29 rfl rfl ?_
      refine pf_96 (pc := 30) (ws' := [(y0, .inr (4, [.ref a0, .ref yi, .ref yk, .ref l0, .ref t0, .ref yn, .ref yt, .int (nI se), .ref ys, .int (tn), .ref ym])), (a0, .inr (2, [.int (nI nt), .int (nI pp), .int (n), .int (hm), .int (sp), .int (td), .int (dt), .ref ao, .ref aw, .ref an, .ref ab, .ref av]))]) 1 dX4_cut_30 rfl rfl rfl (Nat.le_of_ble_eq_true rfl) rfl ?_
      refine v_iload_n (pc := 33) 0 dX4_cut_33 rfl rfl ?_
      refine v_iret (pc := 34) dX4_cut_34 rfl ⟨rfl, rfl⟩ (Rt.i2 ?_ ?_)
      · skip
        first | simp only [if_neg c_1, if_pos c_12] | rfl
      · skip
        first | simp only [if_neg c_1, if_pos c_12] | rfl
    · skip
      refine v_iconst (pc := 15) (v := -1) dX4_cut_15 (by decide) ?_
      refine v_iret (pc := 16) dX4_cut_16 rfl ⟨rfl, rfl⟩ (Rt.i2 ?_ ?_)
      · skip
        first | simp only [if_neg c_1, if_neg c_12] | rfl
      · skip
        first | simp only [if_neg c_1, if_neg c_12] | rfl
theorem c_X4_brings (l : Launch) (E : VE) (y0 : Nat) (yi : Nat) (yk : Nat) (t0 : Nat) (yn : Nat) (yt : Nat) (ys : Nat) (ym : Nat) (se : Nat) (tn : Int32) (l0 : Nat) (a0 : Nat) (ao : Nat) (aw : Nat) (an : Nat) (ab : Nat) (av : Nat) (nt : Nat) (pp : Nat) (rl : Nat) (hm : Int32) (sp : Int32) (td : Int32) (dt : Int32) (on : Nat → Int32) (wr : Nat → Int32) (nd : Nat → Int32) (br : Nat → Int32) (x : Int32) (h_rl : rl ≤ 8) (h_nt : nt ≤ 6) : Ct l E yX4_brings cX4_brings 2 (Option.some FieldType.int) 3 66 0 0 [.ref y0, .int (x)] [(y0, .inr (4, [.ref a0, .ref yi, .ref yk, .ref l0, .ref t0, .ref yn, .ref yt, .int (nI se), .ref ys, .int (tn), .ref ym])), (a0, .inr (2, [.int (nI nt), .int (nI pp), .int (nI rl), .int (hm), .int (sp), .int (td), .int (dt), .ref ao, .ref aw, .ref an, .ref ab, .ref av])), (ao, .inl (E.2.1 1, 8, .inl (on))), (aw, .inl (E.2.1 1, 8, .inl (wr))), (an, .inl (E.2.1 1, 8, .inl (nd))), (ab, .inl (E.2.1 1, 8, .inl (br)))] (Rt (some (.int (if ¬ x < 0 ∧ ¬ nI (2 ^ nt - 1) < x then outc rl hm sp on wr nd br x else -1))) [(y0, .inr (4, [.ref a0, .ref yi, .ref yk, .ref l0, .ref t0, .ref yn, .ref yt, .int (nI se), .ref ys, .int (tn), .ref ym])), (a0, .inr (2, [.int (nI nt), .int (nI pp), .int (nI rl), .int (hm), .int (sp), .int (td), .int (dt), .ref ao, .ref aw, .ref an, .ref ab, .ref av])), (ao, .inl (E.2.1 1, 8, .inl (on))), (aw, .inl (E.2.1 1, 8, .inl (wr))), (an, .inl (E.2.1 1, 8, .inl (nd))), (ab, .inl (E.2.1 1, 8, .inl (br)))]) := by
  refine Ct.of (own := RX4) (nm := "brings") (lv := [(0, .ref y0), (1, .int (x))]) (by decide) rfl rfl (Nat.le_of_ble_eq_true rfl) rfl ?_
  refine v_aload_n (pc := 0) 0 dX4_brings_0 rfl rfl ?_
  refine gf_240 (pc := 1) 0 dX4_brings_1 rfl rfl ?_
  refine v_iload_n (pc := 4) 1 dX4_brings_4 rfl rfl ?_
  refine v_callV (pc := 5) (rest := []) [1] 1 lk_510 (c_X2_hasSet l E a0 ao aw an ab av nt pp rl hm sp td dt x (by first | assumption | omega)) dX4_brings_5 rfl rfl (Nat.le_of_ble_eq_true rfl) (by decide) rfl rfl rfl (by decide) rfl (Rt.len rfl) (Rt.go ?_)
  refine v_w (ws' := [(y0, .inr (4, [.ref a0, .ref yi, .ref yk, .ref l0, .ref t0, .ref yn, .ref yt, .int (nI se), .ref ys, .int (tn), .ref ym])), (a0, .inr (2, [.int (nI nt), .int (nI pp), .int (nI rl), .int (hm), .int (sp), .int (td), .int (dt), .ref ao, .ref aw, .ref an, .ref ab, .ref av])), (ao, .inl (E.2.1 1, 8, .inl (on))), (aw, .inl (E.2.1 1, 8, .inl (wr))), (an, .inl (E.2.1 1, 8, .inl (nd))), (ab, .inl (E.2.1 1, 8, .inl (br)))]) rfl ?_
  refine v_st (st' := [.int (if ¬ x < 0 ∧ ¬ nI (2 ^ nt - 1) < x then 1 else 0)]) rfl ?_
  refine v_ifB_eq (pc := 8) 22 dX4_brings_8 (by decide) (fun c_8 => ?_) (fun c_8 => ?_)
  · skip
    refine v_iconst (pc := 22) (v := -1) dX4_brings_22 (by decide) ?_
    refine v_iret (pc := 23) dX4_brings_23 rfl ⟨rfl, rfl⟩ (Rt.i ?_)
    first | simp only [if_neg c_8] | rfl
  · skip
    refine v_aload_n (pc := 11) 0 dX4_brings_11 rfl rfl ?_
    refine gf_240 (pc := 12) 0 dX4_brings_12 rfl rfl ?_
    refine v_iload_n (pc := 15) 1 dX4_brings_15 rfl rfl ?_
    refine v_callV (pc := 16) (rest := []) [1, 2, 3, 4, 5] 1 lk_518 (c_X2_outcome l E a0 ao aw an ab av nt pp rl hm sp td dt on wr nd br x (by first | assumption | omega)) dX4_brings_16 rfl rfl (Nat.le_of_ble_eq_true rfl) (by decide) rfl rfl rfl (by decide) rfl (Rt.len rfl) (Rt.go ?_)
    refine v_w (ws' := [(y0, .inr (4, [.ref a0, .ref yi, .ref yk, .ref l0, .ref t0, .ref yn, .ref yt, .int (nI se), .ref ys, .int (tn), .ref ym])), (a0, .inr (2, [.int (nI nt), .int (nI pp), .int (nI rl), .int (hm), .int (sp), .int (td), .int (dt), .ref ao, .ref aw, .ref an, .ref ab, .ref av])), (ao, .inl (E.2.1 1, 8, .inl (on))), (aw, .inl (E.2.1 1, 8, .inl (wr))), (an, .inl (E.2.1 1, 8, .inl (nd))), (ab, .inl (E.2.1 1, 8, .inl (br)))]) rfl ?_
    refine v_st (st' := [.int (outc rl hm sp on wr nd br x)]) rfl ?_
    refine v_goto (pc := 19) 23 dX4_brings_19 (by decide) ?_
    refine v_iret (pc := 23) dX4_brings_23 rfl ⟨rfl, rfl⟩ (Rt.i ?_)
    first | simp only [if_pos c_8] | rfl
theorem c_X4_day (l : Launch) (E : VE) (y0 : Nat) (yi : Nat) (yk : Nat) (t0 : Nat) (yn : Nat) (yt : Nat) (ys : Nat) (ym : Nat) (se : Nat) (tn : Int32) (l0 : Nat) (a0 : Nat) (ao : Nat) (aw : Nat) (an : Nat) (ab : Nat) (av : Nat) (nt : Nat) (pp : Nat) (rl : Nat) (hm : Int32) (sp : Int32) (td : Int32) (dt : Int32) (on : Nat → Int32) (wr : Nat → Int32) (nd : Nat → Int32) (br : Nat → Int32) (n : Int32) (h_rl : rl ≤ 8) (h_nt : nt ≤ 6) : Ct l E yX4_day cX4_day 3 (Option.some FieldType.int) 3 66 0 0 [.ref y0, .int (n)] [(y0, .inr (4, [.ref a0, .ref yi, .ref yk, .ref l0, .ref t0, .ref yn, .ref yt, .int (nI se), .ref ys, .int (tn), .ref ym])), (a0, .inr (2, [.int (nI nt), .int (nI pp), .int (nI rl), .int (hm), .int (sp), .int (td), .int (dt), .ref ao, .ref aw, .ref an, .ref ab, .ref av])), (ao, .inl (E.2.1 1, 8, .inl (on))), (aw, .inl (E.2.1 1, 8, .inl (wr))), (an, .inl (E.2.1 1, 8, .inl (nd))), (ab, .inl (E.2.1 1, 8, .inl (br)))] (Rt (some (.int (if n < 0 then -1 else if n ≤ 60 then (if dt + n < 1000 then itr (outc rl hm sp on wr nd br) n.toNatClampNeg td else -3) else -1))) [(y0, .inr (4, [.ref a0, .ref yi, .ref yk, .ref l0, .ref t0, .ref yn, .ref yt, .int (nI se), .ref ys, .int (tn), .ref ym])), (a0, .inr (2, [.int (nI nt), .int (nI pp), .int (nI rl), .int (hm), .int (sp), .int (if n < 0 then td else if n ≤ 60 then (if dt + n < 1000 then itr (outc rl hm sp on wr nd br) n.toNatClampNeg td else td) else td), .int (if n < 0 then dt else if n ≤ 60 then (if dt + n < 1000 then dt + n else dt) else dt), .ref ao, .ref aw, .ref an, .ref ab, .ref av])), (ao, .inl (E.2.1 1, 8, .inl (on))), (aw, .inl (E.2.1 1, 8, .inl (wr))), (an, .inl (E.2.1 1, 8, .inl (nd))), (ab, .inl (E.2.1 1, 8, .inl (br)))]) := by
  refine Ct.of (own := RX4) (nm := "day") (lv := [(0, .ref y0), (1, .int (n))]) (by decide) rfl rfl (Nat.le_of_ble_eq_true rfl) rfl ?_
  refine v_iload_n (pc := 0) 1 dX4_day_0 rfl rfl ?_
  refine v_if_lt (pc := 1) 10 dX4_day_1 (by decide) (fun c_1 => ?_) (fun c_1 => ?_)
  · skip
    refine v_iconst (pc := 10) (v := -1) dX4_day_10 (by decide) ?_
    refine v_iret (pc := 11) dX4_day_11 rfl ⟨rfl, rfl⟩ (Rt.i2 ?_ ?_)
    · skip
      first | simp only [if_pos c_1] | rfl
    · skip
      first | simp only [if_pos c_1] | rfl
  · skip
    refine v_iload_n (pc := 4) 1 dX4_day_4 rfl rfl ?_
    refine v_bipush (pc := 5) (v := 60) dX4_day_5 (by decide) ?_
    refine v_icmp_le (pc := 7) 12 dX4_day_7 (by decide) (fun c_7 => ?_) (fun c_7 => ?_)
    · skip
      refine v_aload_n (pc := 12) 0 dX4_day_12 rfl rfl ?_
      refine gf_240 (pc := 13) 0 dX4_day_13 rfl rfl ?_
      refine gf_110 (pc := 16) 1 dX4_day_16 rfl rfl ?_
      refine v_iload_n (pc := 19) 1 dX4_day_19 rfl rfl ?_
      refine v_iadd (pc := 20) dX4_day_20 ?_
      refine v_sipush (pc := 21) (v := 1000) dX4_day_21 (by decide) ?_
      refine v_icmp_lt (pc := 24) 30 dX4_day_24 (by decide) (fun c_24 => ?_) (fun c_24 => ?_)
      · skip
        obtain ⟨m, hm60, rfl⟩ := le_ex (b := 60) c_1 (Int32.not_lt.mpr c_7) (by decide)
        have hmc : (nI m).toNatClampNeg = m := nI_clamp (by omega)
        refine v_iconst (pc := 30) (v := 0) dX4_day_30 (by decide) ?_
        refine v_istore_n (pc := 31) (lv' := [(2, .int (0)), (0, .ref y0), (1, .int ((nI m)))]) dX4_day_31 rfl (by decide) rfl ?_
        have loop_32 : ∀ (D_32 : Nat) (i : Nat) (t : Int32), m - i < D_32 → (i ≤ m) → (t = itr (outc rl hm sp on wr nd br) i td) → V l E RX4 cX4_day 3 (Option.some FieldType.int) "day" ({ frames := 3, cells := 0, slots := 0, locals := 66 }) [(y0, .inr (4, [.ref a0, .ref yi, .ref yk, .ref l0, .ref t0, .ref yn, .ref yt, .int (nI se), .ref ys, .int (tn), .ref ym])), (a0, .inr (2, [.int (nI nt), .int (nI pp), .int (nI rl), .int (hm), .int (sp), .int (td), .int (dt), .ref ao, .ref aw, .ref an, .ref ab, .ref av])), (ao, .inl (E.2.1 1, 8, .inl (on))), (aw, .inl (E.2.1 1, 8, .inl (wr))), (an, .inl (E.2.1 1, 8, .inl (nd))), (ab, .inl (E.2.1 1, 8, .inl (br)))] 0 0 (Rt (some (.int (if (nI m) < 0 then -1 else if (nI m) ≤ 60 then (if dt + (nI m) < 1000 then itr (outc rl hm sp on wr nd br) (nI m).toNatClampNeg td else -3) else -1))) [(y0, .inr (4, [.ref a0, .ref yi, .ref yk, .ref l0, .ref t0, .ref yn, .ref yt, .int (nI se), .ref ys, .int (tn), .ref ym])), (a0, .inr (2, [.int (nI nt), .int (nI pp), .int (nI rl), .int (hm), .int (sp), .int (if (nI m) < 0 then td else if (nI m) ≤ 60 then (if dt + (nI m) < 1000 then itr (outc rl hm sp on wr nd br) (nI m).toNatClampNeg td else td) else td), .int (if (nI m) < 0 then dt else if (nI m) ≤ 60 then (if dt + (nI m) < 1000 then dt + (nI m) else dt) else dt), .ref ao, .ref aw, .ref an, .ref ab, .ref av])), (ao, .inl (E.2.1 1, 8, .inl (on))), (aw, .inl (E.2.1 1, 8, .inl (wr))), (an, .inl (E.2.1 1, 8, .inl (nd))), (ab, .inl (E.2.1 1, 8, .inl (br)))]) 0 0 32 [(2, .int (nI i)), (0, .ref y0), (1, .int (nI m))] [] [(y0, .inr (4, [.ref a0, .ref yi, .ref yk, .ref l0, .ref t0, .ref yn, .ref yt, .int (nI se), .ref ys, .int (tn), .ref ym])), (a0, .inr (2, [.int (nI nt), .int (nI pp), .int (nI rl), .int (hm), .int (sp), .int (t), .int (dt), .ref ao, .ref aw, .ref an, .ref ab, .ref av])), (ao, .inl (E.2.1 1, 8, .inl (on))), (aw, .inl (E.2.1 1, 8, .inl (wr))), (an, .inl (E.2.1 1, 8, .inl (nd))), (ab, .inl (E.2.1 1, 8, .inl (br)))] := by
          intro D_32
          induction D_32 with
          | zero => intro i t h; exact absurd h (Nat.not_lt_zero _)
          | succ D_32 ih_32 =>
            intro i t hmu_32 h_32_0 h_32_1
            refine v_iload_n (pc := 32) 0 dX4_day_32 rfl rfl ?_
            refine v_iload_n (pc := 33) 2 dX4_day_33 rfl rfl ?_
            refine v_cmpN_ge (pc := 34) (a := i) (b := m) 64 dX4_day_34 (by decide) (by omega) (by omega) (fun c_34 => ?_) (fun c_34 => ?_)
            · skip
              refine v_aload_n (pc := 64) 1 dX4_day_64 rfl rfl ?_
              refine gf_240 (pc := 65) 0 dX4_day_65 rfl rfl ?_
              refine v_dup (pc := 68) dX4_day_68 rfl ?_
              refine gf_110 (pc := 69) 1 dX4_day_69 rfl rfl ?_
              refine v_iload_n (pc := 72) 2 dX4_day_72 rfl rfl ?_
              refine v_iadd (pc := 73) dX4_day_73 ?_
              refine pf_110 (pc := 74) (ws' := [(y0, .inr (4, [.ref a0, .ref yi, .ref yk, .ref l0, .ref t0, .ref yn, .ref yt, .int (nI se), .ref ys, .int (tn), .ref ym])), (a0, .inr (2, [.int (nI nt), .int (nI pp), .int (nI rl), .int (hm), .int (sp), .int (t), .int ((dt) + (nI m)), .ref ao, .ref aw, .ref an, .ref ab, .ref av])), (ao, .inl (E.2.1 1, 8, .inl (on))), (aw, .inl (E.2.1 1, 8, .inl (wr))), (an, .inl (E.2.1 1, 8, .inl (nd))), (ab, .inl (E.2.1 1, 8, .inl (br)))]) 1 dX4_day_74 rfl rfl rfl (Nat.le_of_ble_eq_true rfl) rfl ?_
              refine v_aload_n (pc := 77) 1 dX4_day_77 rfl rfl ?_
              refine gf_240 (pc := 78) 0 dX4_day_78 rfl rfl ?_
              refine gf_107 (pc := 81) 1 dX4_day_81 rfl rfl ?_
              refine v_iret (pc := 84) dX4_day_84 rfl ⟨rfl, rfl⟩ (Rt.i2 ?_ ?_)
              · skip
                obtain rfl : i = m := by omega
                simp only [if_neg c_1, if_pos c_7, if_pos c_24, hmc]; exact h_32_1
              · skip
                obtain rfl : i = m := by omega
                simp only [if_neg c_1, if_pos c_7, if_pos c_24, hmc, h_32_1]
            · skip
              refine v_aload_n (pc := 37) 1 dX4_day_37 rfl rfl ?_
              refine gf_240 (pc := 38) 0 dX4_day_38 rfl rfl ?_
              refine v_aload_n (pc := 41) 1 dX4_day_41 rfl rfl ?_
              refine gf_240 (pc := 42) 0 dX4_day_42 rfl rfl ?_
              refine v_aload_n (pc := 45) 1 dX4_day_45 rfl rfl ?_
              refine gf_240 (pc := 46) 0 dX4_day_46 rfl rfl ?_
              refine gf_107 (pc := 49) 1 dX4_day_49 rfl rfl ?_
              refine v_callV (pc := 52) (rest := [.ref a0]) [1, 2, 3, 4, 5] 1 lk_518 (c_X2_outcome l E a0 ao aw an ab av nt pp rl hm sp t dt on wr nd br t (by first | assumption | omega)) dX4_day_52 rfl rfl (Nat.le_of_ble_eq_true rfl) (by decide) rfl rfl rfl (by decide) rfl (Rt.len rfl) (Rt.go ?_)
              refine v_w (ws' := [(y0, .inr (4, [.ref a0, .ref yi, .ref yk, .ref l0, .ref t0, .ref yn, .ref yt, .int (nI se), .ref ys, .int (tn), .ref ym])), (a0, .inr (2, [.int (nI nt), .int (nI pp), .int (nI rl), .int (hm), .int (sp), .int (t), .int (dt), .ref ao, .ref aw, .ref an, .ref ab, .ref av])), (ao, .inl (E.2.1 1, 8, .inl (on))), (aw, .inl (E.2.1 1, 8, .inl (wr))), (an, .inl (E.2.1 1, 8, .inl (nd))), (ab, .inl (E.2.1 1, 8, .inl (br)))]) rfl ?_
              refine v_st (st' := [.int (outc rl hm sp on wr nd br t), .ref a0]) rfl ?_
              refine pf_107 (pc := 55) (ws' := [(y0, .inr (4, [.ref a0, .ref yi, .ref yk, .ref l0, .ref t0, .ref yn, .ref yt, .int (nI se), .ref ys, .int (tn), .ref ym])), (a0, .inr (2, [.int (nI nt), .int (nI pp), .int (nI rl), .int (hm), .int (sp), .int (outc rl hm sp on wr nd br t), .int (dt), .ref ao, .ref aw, .ref an, .ref ab, .ref av])), (ao, .inl (E.2.1 1, 8, .inl (on))), (aw, .inl (E.2.1 1, 8, .inl (wr))), (an, .inl (E.2.1 1, 8, .inl (nd))), (ab, .inl (E.2.1 1, 8, .inl (br)))]) 1 dX4_day_55 rfl rfl rfl (Nat.le_of_ble_eq_true rfl) rfl ?_
              refine v_iinc (pc := 58) (v := nI (i + 1)) (lv' := [(2, .int (nI (i + 1))), (0, .ref y0), (1, .int (nI m))]) 0 dX4_day_58 rfl (nI_inc (i) 1) (by decide) rfl ?_
              refine v_goto (pc := 61) 32 dX4_day_61 (by decide) ?_
              refine v_lv (lv' := [(2, .int (nI (i + 1))), (0, .ref y0), (1, .int (nI m))]) [0, 1, 2] rfl ?_
              refine ih_32 (i + 1) (outc rl hm sp on wr nd br t) (by omega) ?_ ?_
              · omega
              · rw [h_32_1]; rfl
        refine v_lv (lv' := [(2, .int (nI 0)), (0, .ref y0), (1, .int (nI m))]) [0, 1, 2] rfl ?_
        refine loop_32 ((m - 0) + 1) 0 td (Nat.lt_succ_self _) ?_ ?_
        · omega
        · rfl
      · skip
        refine v_bipush (pc := 27) (v := -3) dX4_day_27 (by decide) ?_
        refine v_iret (pc := 29) dX4_day_29 rfl ⟨rfl, rfl⟩ (Rt.i2 ?_ ?_)
        · skip
          first | simp only [if_neg c_1, if_pos c_7, if_neg c_24] | rfl
        · skip
          first | simp only [if_neg c_1, if_pos c_7, if_neg c_24] | rfl
    · skip
      refine v_iconst (pc := 10) (v := -1) dX4_day_10 (by decide) ?_
      refine v_iret (pc := 11) dX4_day_11 rfl ⟨rfl, rfl⟩ (Rt.i2 ?_ ?_)
      · skip
        first | simp only [if_neg c_1, if_neg c_7] | rfl
      · skip
        first | simp only [if_neg c_1, if_neg c_7] | rfl
