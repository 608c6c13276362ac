/-! the model's reading, second part -/
def andT (b : Nat → Int32) (n : Nat) (r k : Int32 × Nat) : Int32 × Nat := if r.1 = 0 then ckT b n r.2 k else r
def othK (b : Nat → Int32) (n p : Nat) (lo hi so : Int32) : Int32 × Nat := if nuC b n p lo hi = 0 then (if bt1 so (tkV b n p 0) = 1 then (4, tkS b n p) else (0, tkN b n p)) else (nuC b n p lo hi, tkS b n p)
def othR (b : Nat → Int32) (n : Nat) (r : Int32 × Nat) (lo hi so : Int32) : Int32 × Nat := andT b n r (othK b n r.2 lo hi so)
def othV (b : Nat → Int32) (n : Nat) (r : Int32 × Nat) (lo hi so : Int32) : Int32 := if (othR b n r lo hi so).1 = 0 then tkV b n r.2 0 else lo
def clK (b : Nat → Int32) (n p : Nat) : Int32 × Nat := if tkK b n p = 3 then (0, tkN b n p) else (2, tkS b n p)
section MD2
variable {b : Nat → Int32} {n : Nat} {bk ba : Int32} {sp he : Nat} {to va : Int32} {r : Int32 × Nat}
theorem Md.stay (k : Int32 × Nat) (h : Md b n r bk ba sp he to va) (hb : ¬ bk = 0) : Md b n (andT b n r k) bk ba sp he to va ∧ ¬ (andT b n r k).1 = 0 := by
  unfold andT
  by_cases h1 : r.1 = 0
  · rw [if_pos h1]
    by_cases h2 : tkO b n r.2 = true
    · exact absurd (h.2.2.2.1 h1 h2).1 hb
    · rw [ckT_no h2]
      obtain ⟨e1, e2⟩ := h.2.2.2.2.1 h1 h2
      exact ⟨Md.bad h.1 h.2.1 e1 e2 (by decide), show ¬ (1 : Int32) = 0 by decide⟩
  · rw [if_neg h1]; exact ⟨h, h1⟩
theorem Md.at (h : Md b n r bk ba sp he to va) (hb : bk = 0) : r.1 = 0 ∧ tkO b n r.2 = true ∧ r.2 ≤ n ∧ sp = tkN b n r.2 ∧ he = tkS b n r.2 ∧ to = tkK b n r.2 ∧ va = tkV b n r.2 0 := by
  obtain ⟨h1, h2⟩ := h.zero hb
  have := h.2.2.2.1 h1 h2
  exact ⟨h1, h2, h.2.2.1 h1, this.2⟩
theorem andT_ok {k : Int32 × Nat} (h1 : r.1 = 0) (h2 : tkO b n r.2 = true) : andT b n r k = k := by unfold andT ckT; rw [if_pos h1, if_pos h2]
theorem oth_num {lo hi so : Int32} (h1 : r.1 = 0) (h2 : tkO b n r.2 = true) (h3 : ¬ nuC b n r.2 lo hi = 0) : othR b n r lo hi so = (nuC b n r.2 lo hi, tkS b n r.2) := by unfold othR othK; rw [andT_ok h1 h2, if_neg h3]
theorem oth_bit {lo hi so : Int32} (h1 : r.1 = 0) (h2 : tkO b n r.2 = true) (h3 : nuC b n r.2 lo hi = 0) (h4 : bt1 so (tkV b n r.2 0) = 1) : othR b n r lo hi so = (4, tkS b n r.2) := by unfold othR othK; rw [andT_ok h1 h2, if_pos h3, if_pos h4]
theorem oth_ok {lo hi so : Int32} (h1 : r.1 = 0) (h2 : tkO b n r.2 = true) (h3 : nuC b n r.2 lo hi = 0) (h4 : ¬ bt1 so (tkV b n r.2 0) = 1) : othR b n r lo hi so = (0, tkN b n r.2) := by unfold othR othK; rw [andT_ok h1 h2, if_pos h3, if_neg h4]
theorem nu_2 {p : Nat} {lo hi : Int32} (h : ¬ tkK b n p = 2) : nuC b n p lo hi = 2 := if_neg h
theorem nu_3 {p : Nat} {lo hi : Int32} (h : tkK b n p = 2) (h2 : ¬ (¬ tkV b n p 0 < lo ∧ ¬ hi < tkV b n p 0)) : nuC b n p lo hi = 3 := by
  unfold nuC numC
  rw [if_pos h]
  by_cases h3 : tkV b n p 0 < lo
  · rw [if_pos h3]
  · rw [if_neg h3]
    by_cases h4 : tkV b n p 0 ≤ hi
    · exact absurd ⟨h3, Int32.not_lt.mpr h4⟩ h2
    · rw [if_neg h4]
theorem nu_0 {p : Nat} {lo hi : Int32} (h : tkK b n p = 2) (h2 : ¬ tkV b n p 0 < lo ∧ ¬ hi < tkV b n p 0) : nuC b n p lo hi = 0 := by
  unfold nuC numC
  rw [if_pos h, if_neg h2.1, if_pos (Int32.not_lt.mp h2.2)]
end MD2
theorem c_X5_other (l : Launch) (E : VE) (m0 : Nat) (ma : Nat) (mp : Nat) (mt : Nat) (mc : Nat) (ml : Nat) (mn : Nat) (mk : Nat) (mg : Nat) (mh : Nat) (mq : Nat) (nt : Nat) (pp : Nat) (tl : Nat) (se : Nat) (th : Int32) (rn : Int32) (ro : Int32) (to : Int32) (wt : Int32) (hn : Int32) (ho : Int32) (fa : Int32) (bk : Int32) (ba : Int32) (tok : Int32) (val : Int32) (tn : Int32) (sq : Nat) (he : Nat) (by_ : Nat → Int32) (r : Int32 × Nat) (lo : Int32) (hi : Int32) (so : Int32) (h_tl : tl ≤ 160) (h_b : ∀ j, ¬ by_ j = -4) (h_md : Md by_ tl r bk ba sq he tok val) : Ct l E yX5_other cX5_other 5 (Option.some FieldType.int) 2 46 0 0 [.ref m0, .int (lo), .int (hi), .int (so)] [(m0, .inr (5, [.ref ma, .int (nI nt), .int (nI pp), .int (th), .ref mp, .int (rn), .int (ro), .int (to), .int (wt), .int (hn), .int (ho), .ref mt, .int (nI tl), .int (fa), .int (bk), .int (ba), .int (nI sq), .int (nI he), .int (tok), .int (val), .ref mc, .ref ml, .ref mn, .int (nI se), .ref mk, .ref mg, .ref mh, .ref mq, .int (tn)])), (mt, .inl (E.2.1 1, 160, .inl (by_)))] (fun v wd => ∃ (bk_ : Int32) (ba_ : Int32) (sp_ : Nat) (he_ : Nat) (to_ : Int32) (va_ : Int32), v = some (.int (othV by_ tl r lo hi so)) ∧ wd = [(m0, .inr (5, [.ref ma, .int (nI nt), .int (nI pp), .int (th), .ref mp, .int (rn), .int (ro), .int (to), .int (wt), .int (hn), .int (ho), .ref mt, .int (nI tl), .int (fa), .int (bk_), .int (ba_), .int (nI sp_), .int (nI he_), .int (to_), .int (va_), .ref mc, .ref ml, .ref mn, .int (nI se), .ref mk, .ref mg, .ref mh, .ref mq, .int (tn)])), (mt, .inl (E.2.1 1, 160, .inl (by_)))] ∧ (Md by_ tl (othR by_ tl r lo hi so) bk_ ba_ sp_ he_ to_ va_)) := by
  refine Ct.of (own := RX5) (nm := "other") (lv := [(0, .ref m0), (1, .int (lo)), (2, .int (hi)), (3, .int (so))]) (by decide) rfl rfl (Nat.le_of_ble_eq_true rfl) rfl ?_
  refine v_aload_n (pc := 0) 0 dX5_other_0 rfl rfl ?_
  refine gf_801 (pc := 1) 0 dX5_other_1 rfl rfl ?_
  refine v_if_ne (pc := 4) 20 dX5_other_4 (by decide) (fun c_4 => ?_) (fun c_4 => ?_)
  · skip
    refine v_aload_n (pc := 20) 0 dX5_other_20 rfl rfl ?_
    refine gf_801 (pc := 21) 0 dX5_other_21 rfl rfl ?_
    refine v_if_ne (pc := 24) 47 dX5_other_24 (by decide) (fun c_24 => ?_) (fun c_24 => ?_)
    · skip
      refine v_aload_n (pc := 47) 0 dX5_other_47 rfl rfl ?_
      refine gf_801 (pc := 48) 0 dX5_other_48 rfl rfl ?_
      refine v_if_ne (pc := 51) 71 dX5_other_51 (by decide) (fun c_51 => ?_) (fun c_51 => ?_)
      · skip
        refine v_aload_n (pc := 71) 0 dX5_other_71 rfl rfl ?_
        refine gf_801 (pc := 72) 0 dX5_other_72 rfl rfl ?_
        refine v_if_ne (pc := 75) 85 dX5_other_75 (by decide) (fun c_75 => ?_) (fun c_75 => ?_)
        · skip
          refine v_iload_n (pc := 85) 1 dX5_other_85 rfl rfl ?_
          refine v_istore (pc := 86) (lv' := [(4, .int (lo)), (0, .ref m0), (1, .int (lo)), (2, .int (hi)), (3, .int (so))]) dX5_other_86 (by decide) rfl ?_
          refine v_aload_n (pc := 88) 1 dX5_other_88 rfl rfl ?_
          refine v_callV (pc := 89) (rest := []) [0] 0 lk_891 (cB_X5_step l E m0 ma mp mt mc ml mn mk mg mh mq nt pp tl se th rn ro to wt hn ho fa bk ba (nI sq) (nI he) tok val tn (by first | exact c_4 | exact h_md.pos.resolve_left c_4 | decide)) dX5_other_89 rfl rfl (Nat.le_of_ble_eq_true rfl) (by decide) rfl rfl rfl (by decide) rfl (Rt.len rfl) (Rt.go ?_)
          refine v_w (ws' := [(m0, .inr (5, [.ref ma, .int (nI nt), .int (nI pp), .int (th), .ref mp, .int (rn), .int (ro), .int (to), .int (wt), .int (hn), .int (ho), .ref mt, .int (nI tl), .int (fa), .int (bk), .int (ba), .int ((nI sq)), .int ((nI he)), .int (tok), .int (val), .ref mc, .ref ml, .ref mn, .int (nI se), .ref mk, .ref mg, .ref mh, .ref mq, .int (tn)])), (mt, .inl (E.2.1 1, 160, .inl (by_)))]) rfl ?_
          refine v_st (st' := []) rfl ?_
          refine v_iload (pc := 92) 0 dX5_other_92 rfl ?_
          refine v_iret (pc := 94) dX5_other_94 rfl ⟨rfl, rfl⟩ ⟨(bk), (ba), (sq), (he), (tok), (val), ?_, rfl, ?_⟩
          · skip
            have hs := h_md.stay (othK by_ tl r.2 lo hi so) c_4
            exact congrArg (fun z => some (Value.int z)) (if_neg hs.2).symm
          · skip
            exact (h_md.stay (othK by_ tl r.2 lo hi so) c_4).1
        · skip
          exact absurd c_75 c_4
      · skip
        exact absurd c_51 c_4
    · skip
      exact absurd c_24 c_4
  · skip
    refine v_aload_n (pc := 7) 0 dX5_other_7 rfl rfl ?_
    refine gf_805 (pc := 8) 0 dX5_other_8 rfl rfl ?_
    refine v_iconst (pc := 11) (v := 2) dX5_other_11 (by decide) ?_
    refine v_icmp_eq (pc := 12) 20 dX5_other_12 (by decide) (fun c_12 => ?_) (fun c_12 => ?_)
    · skip
      refine v_aload_n (pc := 20) 0 dX5_other_20 rfl rfl ?_
      refine gf_801 (pc := 21) 0 dX5_other_21 rfl rfl ?_
      refine v_if_ne (pc := 24) 47 dX5_other_24 (by decide) (fun c_24 => ?_) (fun c_24 => ?_)
      · skip
        exact absurd c_4 c_24
      · skip
        refine v_aload_n (pc := 27) 0 dX5_other_27 rfl rfl ?_
        refine gf_806 (pc := 28) 0 dX5_other_28 rfl rfl ?_
        refine v_i2l (pc := 31) dX5_other_31 ?_
        refine v_iload_n (pc := 32) 1 dX5_other_32 rfl rfl ?_
        refine v_i2l (pc := 33) dX5_other_33 ?_
        refine v_iload_n (pc := 34) 2 dX5_other_34 rfl rfl ?_
        refine v_i2l (pc := 35) dX5_other_35 ?_
        refine v_callS (pc := 36) (rest := []) [] lk_880 (c_X5_in l E (Int32.toInt64 (val)) (Int32.toInt64 (lo)) (Int32.toInt64 (hi))) dX5_other_36 rfl rfl (Nat.le_of_ble_eq_true rfl) (by decide) (by decide) rfl (Rt.len rfl) (Rt.go ?_)
        refine v_w (ws' := [(m0, .inr (5, [.ref ma, .int (nI nt), .int (nI pp), .int (th), .ref mp, .int (rn), .int (ro), .int (to), .int (wt), .int (hn), .int (ho), .ref mt, .int (nI tl), .int (fa), .int (bk), .int (ba), .int (nI sq), .int (nI he), .int (tok), .int (val), .ref mc, .ref ml, .ref mn, .int (nI se), .ref mk, .ref mg, .ref mh, .ref mq, .int (tn)])), (mt, .inl (E.2.1 1, 160, .inl (by_)))]) rfl ?_
        refine v_st (st' := [.int (if ¬ (Int32.toInt64 (val)) < (Int32.toInt64 (lo)) ∧ ¬ (Int32.toInt64 (hi)) < (Int32.toInt64 (val)) then 1 else 0)]) rfl ?_
        refine v_ifB_ne (pc := 39) 47 dX5_other_39 (by decide) (fun c_39 => ?_) (fun c_39 => ?_)
        · skip
          refine v_aload_n (pc := 47) 0 dX5_other_47 rfl rfl ?_
          refine gf_801 (pc := 48) 0 dX5_other_48 rfl rfl ?_
          refine v_if_ne (pc := 51) 71 dX5_other_51 (by decide) (fun c_51 => ?_) (fun c_51 => ?_)
          · skip
            exact absurd c_4 c_51
          · skip
            refine v_iload_n (pc := 54) 3 dX5_other_54 rfl rfl ?_
            refine v_aload_n (pc := 55) 0 dX5_other_55 rfl rfl ?_
            refine gf_806 (pc := 56) 0 dX5_other_56 rfl rfl ?_
            refine v_ishr (pc := 59) dX5_other_59 ?_
            refine v_iconst (pc := 60) (v := 1) dX5_other_60 (by decide) ?_
            refine v_iand (pc := 61) dX5_other_61 ?_
            refine v_iconst (pc := 62) (v := 1) dX5_other_62 (by decide) ?_
            refine v_icmp_ne (pc := 63) 71 dX5_other_63 (by decide) (fun c_63 => ?_) (fun c_63 => ?_)
            · skip
              refine v_aload_n (pc := 71) 0 dX5_other_71 rfl rfl ?_
              refine gf_801 (pc := 72) 0 dX5_other_72 rfl rfl ?_
              refine v_if_ne (pc := 75) 85 dX5_other_75 (by decide) (fun c_75 => ?_) (fun c_75 => ?_)
              · skip
                exact absurd c_4 c_75
              · skip
                refine v_aload_n (pc := 78) 0 dX5_other_78 rfl rfl ?_
                refine gf_806 (pc := 79) 0 dX5_other_79 rfl rfl ?_
                refine v_goto (pc := 82) 86 dX5_other_82 (by decide) ?_
                refine v_istore (pc := 86) (lv' := [(4, .int (val)), (0, .ref m0), (1, .int (lo)), (2, .int (hi)), (3, .int (so))]) dX5_other_86 (by decide) rfl ?_
                refine v_aload_n (pc := 88) 1 dX5_other_88 rfl rfl ?_
                refine v_callV (pc := 89) (rest := []) [0, 1] 0 lk_891 (c_X5_step l E m0 ma mp mt mc ml mn mk mg mh mq nt pp tl se th rn ro to wt hn ho fa bk ba tok val tn he by_ sq h_tl h_md.1 (by first | exact c_4 | exact h_md.pos.resolve_left c_4 | decide) h_b) dX5_other_89 rfl rfl (Nat.le_of_ble_eq_true rfl) (by decide) rfl rfl rfl (by decide) rfl (by rintro _ _ ⟨_, _, _, _, _, _, _, rfl, _⟩; rfl) ?_
                rintro _ _ ⟨bk_89, ba_89, sp_89, he_89, to_89, va_89, rfl, rfl, hf89_0⟩
                refine v_w (ws' := [(m0, .inr (5, [.ref ma, .int (nI nt), .int (nI pp), .int (th), .ref mp, .int (rn), .int (ro), .int (to), .int (wt), .int (hn), .int (ho), .ref mt, .int (nI tl), .int (fa), .int (bk_89), .int (ba_89), .int (nI sp_89), .int (nI he_89), .int (to_89), .int (va_89), .ref mc, .ref ml, .ref mn, .int (nI se), .ref mk, .ref mg, .ref mh, .ref mq, .int (tn)])), (mt, .inl (E.2.1 1, 160, .inl (by_)))]) rfl ?_
                refine v_st (st' := []) rfl ?_
                refine v_iload (pc := 92) 0 dX5_other_92 rfl ?_
                refine v_iret (pc := 94) dX5_other_94 rfl ⟨rfl, rfl⟩ ⟨(bk_89), (ba_89), (sp_89), (he_89), (to_89), (va_89), ?_, rfl, ?_⟩
                · skip
                  obtain ⟨h1, h2, h3, h4, h5, h6, h7⟩ := h_md.at c_4
                  have hn : nuC by_ tl r.2 lo hi = 0 := nu_0 (by rw [← h6]; exact c_12) (by rw [← h7]; exact inK.mp c_39)
                  have hc : othR by_ tl r lo hi so = (0, tkN by_ tl r.2) := oth_ok h1 h2 hn (by rw [← h7]; exact c_63)
                  unfold othV; rw [hc, h7]; rfl
                · skip
                  obtain ⟨h1, h2, h3, h4, h5, h6, h7⟩ := h_md.at c_4
                  have hn : nuC by_ tl r.2 lo hi = 0 := nu_0 (by rw [← h6]; exact c_12) (by rw [← h7]; exact inK.mp c_39)
                  have hc : othR by_ tl r lo hi so = (0, tkN by_ tl r.2) := oth_ok h1 h2 hn (by rw [← h7]; exact c_63)
                  rw [hc, ← h4]; exact hf89_0
            · skip
              refine v_aload_n (pc := 66) 0 dX5_other_66 rfl rfl ?_
              refine v_iconst (pc := 67) (v := 4) dX5_other_67 (by decide) ?_
              refine v_callV (pc := 68) (rest := []) [0] 0 lk_903 (c_X5_fails l E m0 ma mp mt mc ml mn mk mg mh mq nt pp tl se th rn ro to wt hn ho fa bk ba (nI sq) (nI he) tok val tn 4) dX5_other_68 rfl rfl (Nat.le_of_ble_eq_true rfl) (by decide) rfl rfl rfl (by decide) rfl (Rt.len rfl) (Rt.go ?_)
              refine v_w (ws' := [(m0, .inr (5, [.ref ma, .int (nI nt), .int (nI pp), .int (th), .ref mp, .int (rn), .int (ro), .int (to), .int (wt), .int (hn), .int (ho), .ref mt, .int (nI tl), .int (fa), .int (if bk = 0 then 4 else bk), .int (if bk = 0 then (nI he) else ba), .int ((nI sq)), .int ((nI he)), .int (tok), .int (val), .ref mc, .ref ml, .ref mn, .int (nI se), .ref mk, .ref mg, .ref mh, .ref mq, .int (tn)])), (mt, .inl (E.2.1 1, 160, .inl (by_)))]) rfl ?_
              refine v_st (st' := []) rfl ?_
              refine v_w (ws' := [(m0, .inr (5, [.ref ma, .int (nI nt), .int (nI pp), .int (th), .ref mp, .int (rn), .int (ro), .int (to), .int (wt), .int (hn), .int (ho), .ref mt, .int (nI tl), .int (fa), .int (4), .int (nI he), .int ((nI sq)), .int ((nI he)), .int (tok), .int (val), .ref mc, .ref ml, .ref mn, .int (nI se), .ref mk, .ref mg, .ref mh, .ref mq, .int (tn)])), (mt, .inl (E.2.1 1, 160, .inl (by_)))]) (by rw [if_pos c_4, if_pos c_4]) ?_
              refine v_aload_n (pc := 71) 0 dX5_other_71 rfl rfl ?_
              refine gf_801 (pc := 72) 0 dX5_other_72 rfl rfl ?_
              refine v_if_ne (pc := 75) 85 dX5_other_75 (by decide) (fun _ => ?_) (fun c => absurd c (by decide))
              refine v_iload_n (pc := 85) 1 dX5_other_85 rfl rfl ?_
              refine v_istore (pc := 86) (lv' := [(4, .int (lo)), (0, .ref m0), (1, .int (lo)), (2, .int (hi)), (3, .int (so))]) dX5_other_86 (by decide) rfl ?_
              refine v_aload_n (pc := 88) 1 dX5_other_88 rfl rfl ?_
              refine v_callV (pc := 89) (rest := []) [0] 0 lk_891 (cB_X5_step l E m0 ma mp mt mc ml mn mk mg mh mq nt pp tl se th rn ro to wt hn ho fa 4 (nI he) (nI sq) (nI he) tok val tn (by first | exact c_4 | exact h_md.pos.resolve_left c_4 | decide)) dX5_other_89 rfl rfl (Nat.le_of_ble_eq_true rfl) (by decide) rfl rfl rfl (by decide) rfl (Rt.len rfl) (Rt.go ?_)
              refine v_w (ws' := [(m0, .inr (5, [.ref ma, .int (nI nt), .int (nI pp), .int (th), .ref mp, .int (rn), .int (ro), .int (to), .int (wt), .int (hn), .int (ho), .ref mt, .int (nI tl), .int (fa), .int (4), .int ((nI he)), .int ((nI sq)), .int ((nI he)), .int (tok), .int (val), .ref mc, .ref ml, .ref mn, .int (nI se), .ref mk, .ref mg, .ref mh, .ref mq, .int (tn)])), (mt, .inl (E.2.1 1, 160, .inl (by_)))]) rfl ?_
              refine v_st (st' := []) rfl ?_
              refine v_iload (pc := 92) 0 dX5_other_92 rfl ?_
              refine v_iret (pc := 94) dX5_other_94 rfl ⟨rfl, rfl⟩ ⟨(4), ((nI he)), (sq), (he), (tok), (val), ?_, rfl, ?_⟩
              · skip
                obtain ⟨h1, h2, h3, h4, h5, h6, h7⟩ := h_md.at c_4
                have hn : nuC by_ tl r.2 lo hi = 0 := nu_0 (by rw [← h6]; exact c_12) (by rw [← h7]; exact inK.mp c_39)
                have hc : othR by_ tl r lo hi so = (4, tkS by_ tl r.2) := oth_bit h1 h2 hn (by rw [← h7]; exact c_63)
                unfold othV; rw [hc]; rfl
              · skip
                obtain ⟨h1, h2, h3, h4, h5, h6, h7⟩ := h_md.at c_4
                have hn : nuC by_ tl r.2 lo hi = 0 := nu_0 (by rw [← h6]; exact c_12) (by rw [← h7]; exact inK.mp c_39)
                have hc : othR by_ tl r lo hi so = (4, tkS by_ tl r.2) := oth_bit h1 h2 hn (by rw [← h7]; exact c_63)
                rw [hc]; exact Md.bad h_md.1 h_md.2.1 rfl (by rw [h5]) (by decide)
        · skip
          refine v_aload_n (pc := 42) 0 dX5_other_42 rfl rfl ?_
          refine v_iconst (pc := 43) (v := 3) dX5_other_43 (by decide) ?_
          refine v_callV (pc := 44) (rest := []) [0] 0 lk_903 (c_X5_fails l E m0 ma mp mt mc ml mn mk mg mh mq nt pp tl se th rn ro to wt hn ho fa bk ba (nI sq) (nI he) tok val tn 3) dX5_other_44 rfl rfl (Nat.le_of_ble_eq_true rfl) (by decide) rfl rfl rfl (by decide) rfl (Rt.len rfl) (Rt.go ?_)
          refine v_w (ws' := [(m0, .inr (5, [.ref ma, .int (nI nt), .int (nI pp), .int (th), .ref mp, .int (rn), .int (ro), .int (to), .int (wt), .int (hn), .int (ho), .ref mt, .int (nI tl), .int (fa), .int (if bk = 0 then 3 else bk), .int (if bk = 0 then (nI he) else ba), .int ((nI sq)), .int ((nI he)), .int (tok), .int (val), .ref mc, .ref ml, .ref mn, .int (nI se), .ref mk, .ref mg, .ref mh, .ref mq, .int (tn)])), (mt, .inl (E.2.1 1, 160, .inl (by_)))]) rfl ?_
          refine v_st (st' := []) rfl ?_
          refine v_w (ws' := [(m0, .inr (5, [.ref ma, .int (nI nt), .int (nI pp), .int (th), .ref mp, .int (rn), .int (ro), .int (to), .int (wt), .int (hn), .int (ho), .ref mt, .int (nI tl), .int (fa), .int (3), .int (nI he), .int ((nI sq)), .int ((nI he)), .int (tok), .int (val), .ref mc, .ref ml, .ref mn, .int (nI se), .ref mk, .ref mg, .ref mh, .ref mq, .int (tn)])), (mt, .inl (E.2.1 1, 160, .inl (by_)))]) (by rw [if_pos c_4, if_pos c_4]) ?_
          refine v_aload_n (pc := 47) 0 dX5_other_47 rfl rfl ?_
          refine gf_801 (pc := 48) 0 dX5_other_48 rfl rfl ?_
          refine v_if_ne (pc := 51) 71 dX5_other_51 (by decide) (fun _ => ?_) (fun c => absurd c (by decide))
          refine v_aload_n (pc := 71) 0 dX5_other_71 rfl rfl ?_
          refine gf_801 (pc := 72) 0 dX5_other_72 rfl rfl ?_
          refine v_if_ne (pc := 75) 85 dX5_other_75 (by decide) (fun _ => ?_) (fun c => absurd c (by decide))
          refine v_iload_n (pc := 85) 1 dX5_other_85 rfl rfl ?_
          refine v_istore (pc := 86) (lv' := [(4, .int (lo)), (0, .ref m0), (1, .int (lo)), (2, .int (hi)), (3, .int (so))]) dX5_other_86 (by decide) rfl ?_
          refine v_aload_n (pc := 88) 1 dX5_other_88 rfl rfl ?_
          refine v_callV (pc := 89) (rest := []) [0] 0 lk_891 (cB_X5_step l E m0 ma mp mt mc ml mn mk mg mh mq nt pp tl se th rn ro to wt hn ho fa 3 (nI he) (nI sq) (nI he) tok val tn (by first | exact c_4 | exact h_md.pos.resolve_left c_4 | decide)) dX5_other_89 rfl rfl (Nat.le_of_ble_eq_true rfl) (by decide) rfl rfl rfl (by decide) rfl (Rt.len rfl) (Rt.go ?_)
          refine v_w (ws' := [(m0, .inr (5, [.ref ma, .int (nI nt), .int (nI pp), .int (th), .ref mp, .int (rn), .int (ro), .int (to), .int (wt), .int (hn), .int (ho), .ref mt, .int (nI tl), .int (fa), .int (3), .int ((nI he)), .int ((nI sq)), .int ((nI he)), .int (tok), .int (val), .ref mc, .ref ml, .ref mn, .int (nI se), .ref mk, .ref mg, .ref mh, .ref mq, .int (tn)])), (mt, .inl (E.2.1 1, 160, .inl (by_)))]) rfl ?_
          refine v_st (st' := []) rfl ?_
          refine v_iload (pc := 92) 0 dX5_other_92 rfl ?_
          refine v_iret (pc := 94) dX5_other_94 rfl ⟨rfl, rfl⟩ ⟨(3), ((nI he)), (sq), (he), (tok), (val), ?_, rfl, ?_⟩
          · skip
            obtain ⟨h1, h2, h3, h4, h5, h6, h7⟩ := h_md.at c_4
            have hn : nuC by_ tl r.2 lo hi = 3 := nu_3 (by rw [← h6]; exact c_12) (by rw [← h7]; exact fun q => c_39 (inK.mpr q))
            have hc : othR by_ tl r lo hi so = (3, tkS by_ tl r.2) := by unfold othR; rw [andT_ok h1 h2]; unfold othK; rw [hn]; rfl
            unfold othV; rw [hc]; rfl
          · skip
            obtain ⟨h1, h2, h3, h4, h5, h6, h7⟩ := h_md.at c_4
            have hn : nuC by_ tl r.2 lo hi = 3 := nu_3 (by rw [← h6]; exact c_12) (by rw [← h7]; exact fun q => c_39 (inK.mpr q))
            have hc : othR by_ tl r lo hi so = (3, tkS by_ tl r.2) := by unfold othR; rw [andT_ok h1 h2]; unfold othK; rw [hn]; rfl
            rw [hc]; exact Md.bad h_md.1 h_md.2.1 rfl (by rw [h5]) (by decide)
    · skip
      refine v_aload_n (pc := 15) 0 dX5_other_15 rfl rfl ?_
      refine v_iconst (pc := 16) (v := 2) dX5_other_16 (by decide) ?_
      refine v_callV (pc := 17) (rest := []) [0] 0 lk_903 (c_X5_fails l E m0 ma mp mt mc ml mn mk mg mh mq nt pp tl se th rn ro to wt hn ho fa bk ba (nI sq) (nI he) tok val tn 2) dX5_other_17 rfl rfl (Nat.le_of_ble_eq_true rfl) (by decide) rfl rfl rfl (by decide) rfl (Rt.len rfl) (Rt.go ?_)
      refine v_w (ws' := [(m0, .inr (5, [.ref ma, .int (nI nt), .int (nI pp), .int (th), .ref mp, .int (rn), .int (ro), .int (to), .int (wt), .int (hn), .int (ho), .ref mt, .int (nI tl), .int (fa), .int (if bk = 0 then 2 else bk), .int (if bk = 0 then (nI he) else ba), .int ((nI sq)), .int ((nI he)), .int (tok), .int (val), .ref mc, .ref ml, .ref mn, .int (nI se), .ref mk, .ref mg, .ref mh, .ref mq, .int (tn)])), (mt, .inl (E.2.1 1, 160, .inl (by_)))]) rfl ?_
      refine v_st (st' := []) rfl ?_
      refine v_w (ws' := [(m0, .inr (5, [.ref ma, .int (nI nt), .int (nI pp), .int (th), .ref mp, .int (rn), .int (ro), .int (to), .int (wt), .int (hn), .int (ho), .ref mt, .int (nI tl), .int (fa), .int (2), .int (nI he), .int ((nI sq)), .int ((nI he)), .int (tok), .int (val), .ref mc, .ref ml, .ref mn, .int (nI se), .ref mk, .ref mg, .ref mh, .ref mq, .int (tn)])), (mt, .inl (E.2.1 1, 160, .inl (by_)))]) (by rw [if_pos c_4, if_pos c_4]) ?_
      refine v_aload_n (pc := 20) 0 dX5_other_20 rfl rfl ?_
      refine gf_801 (pc := 21) 0 dX5_other_21 rfl rfl ?_
      refine v_if_ne (pc := 24) 47 dX5_other_24 (by decide) (fun _ => ?_) (fun c => absurd c (by decide))
      refine v_aload_n (pc := 47) 0 dX5_other_47 rfl rfl ?_
      refine gf_801 (pc := 48) 0 dX5_other_48 rfl rfl ?_
      refine v_if_ne (pc := 51) 71 dX5_other_51 (by decide) (fun _ => ?_) (fun c => absurd c (by decide))
      refine v_aload_n (pc := 71) 0 dX5_other_71 rfl rfl ?_
      refine gf_801 (pc := 72) 0 dX5_other_72 rfl rfl ?_
      refine v_if_ne (pc := 75) 85 dX5_other_75 (by decide) (fun _ => ?_) (fun c => absurd c (by decide))
      refine v_iload_n (pc := 85) 1 dX5_other_85 rfl rfl ?_
      refine v_istore (pc := 86) (lv' := [(4, .int (lo)), (0, .ref m0), (1, .int (lo)), (2, .int (hi)), (3, .int (so))]) dX5_other_86 (by decide) rfl ?_
      refine v_aload_n (pc := 88) 1 dX5_other_88 rfl rfl ?_
      refine v_callV (pc := 89) (rest := []) [0] 0 lk_891 (cB_X5_step l E m0 ma mp mt mc ml mn mk mg mh mq nt pp tl se th rn ro to wt hn ho fa 2 (nI he) (nI sq) (nI he) tok val tn (by first | exact c_4 | exact h_md.pos.resolve_left c_4 | decide)) dX5_other_89 rfl rfl (Nat.le_of_ble_eq_true rfl) (by decide) rfl rfl rfl (by decide) rfl (Rt.len rfl) (Rt.go ?_)
      refine v_w (ws' := [(m0, .inr (5, [.ref ma, .int (nI nt), .int (nI pp), .int (th), .ref mp, .int (rn), .int (ro), .int (to), .int (wt), .int (hn), .int (ho), .ref mt, .int (nI tl), .int (fa), .int (2), .int ((nI he)), .int ((nI sq)), .int ((nI he)), .int (tok), .int (val), .ref mc, .ref ml, .ref mn, .int (nI se), .ref mk, .ref mg, .ref mh, .ref mq, .int (tn)])), (mt, .inl (E.2.1 1, 160, .inl (by_)))]) rfl ?_
      refine v_st (st' := []) rfl ?_
      refine v_iload (pc := 92) 0 dX5_other_92 rfl ?_
      refine v_iret (pc := 94) dX5_other_94 rfl ⟨rfl, rfl⟩ ⟨(2), ((nI he)), (sq), (he), (tok), (val), ?_, rfl, ?_⟩
      · skip
        obtain ⟨h1, h2, h3, h4, h5, h6, h7⟩ := h_md.at c_4
        have hn : nuC by_ tl r.2 lo hi = 2 := nu_2 (by rw [← h6]; exact c_12)
        have hc : othR by_ tl r lo hi so = (2, tkS by_ tl r.2) := by unfold othR; rw [andT_ok h1 h2]; unfold othK; rw [hn]; rfl
        unfold othV; rw [hc]; rfl
      · skip
        obtain ⟨h1, h2, h3, h4, h5, h6, h7⟩ := h_md.at c_4
        have hn : nuC by_ tl r.2 lo hi = 2 := nu_2 (by rw [← h6]; exact c_12)
        have hc : othR by_ tl r lo hi so = (2, tkS by_ tl r.2) := by unfold othR; rw [andT_ok h1 h2]; unfold othK; rw [hn]; rfl
        rw [hc]; exact Md.bad h_md.1 h_md.2.1 rfl (by rw [h5]) (by decide)
theorem c_X5_noteHere (l : Launch) (E : VE) (m0 : Nat) (ma : Nat) (mp : Nat) (mt : Nat) (mc : Nat) (ml : Nat) (mn : Nat) (mk : Nat) (mg : Nat) (mh : Nat) (mq : Nat) (nt : Nat) (pp : Nat) (tl : Nat) (se : Nat) (th : Int32) (rn : Int32) (ro : Int32) (to : Int32) (wt : Int32) (hn : Int32) (ho : Int32) (fa : Int32) (bk : Int32) (ba : Int32) (tok : Int32) (val : Int32) (tn : Int32) (sq : Nat) (he : Nat) (by_ : Nat → Int32) (r : Int32 × Nat) (so : Int32) (h_tl : tl ≤ 160) (h_b : ∀ j, ¬ by_ j = -4) (h_md : Md by_ tl r bk ba sq he tok val) : Ct l E yX5_noteHere cX5_noteHere 3 (Option.some FieldType.int) 3 70 0 0 [.ref m0, .int (so)] [(m0, .inr (5, [.ref ma, .int (nI nt), .int (nI pp), .int (th), .ref mp, .int (rn), .int (ro), .int (to), .int (wt), .int (hn), .int (ho), .ref mt, .int (nI tl), .int (fa), .int (bk), .int (ba), .int (nI sq), .int (nI he), .int (tok), .int (val), .ref mc, .ref ml, .ref mn, .int (nI se), .ref mk, .ref mg, .ref mh, .ref mq, .int (tn)])), (mt, .inl (E.2.1 1, 160, .inl (by_)))] (fun v wd => ∃ (bk_ : Int32) (ba_ : Int32) (sp_ : Nat) (he_ : Nat) (to_ : Int32) (va_ : Int32), v = some (.int (othV by_ tl r 0 5 so)) ∧ wd = [(m0, .inr (5, [.ref ma, .int (nI nt), .int (nI pp), .int (th), .ref mp, .int (rn), .int (ro), .int (to), .int (wt), .int (if (othV by_ tl r 0 5 so) ≤ (hn) then hn else othV by_ tl r 0 5 so), .int (ho), .ref mt, .int (nI tl), .int (fa), .int (bk_), .int (ba_), .int (nI sp_), .int (nI he_), .int (to_), .int (va_), .ref mc, .ref ml, .ref mn, .int (nI se), .ref mk, .ref mg, .ref mh, .ref mq, .int (tn)])), (mt, .inl (E.2.1 1, 160, .inl (by_)))] ∧ (Md by_ tl (othR by_ tl r 0 5 so) bk_ ba_ sp_ he_ to_ va_)) := by
  refine Ct.of (own := RX5) (nm := "noteHere") (lv := [(0, .ref m0), (1, .int (so))]) (by decide) rfl rfl (Nat.le_of_ble_eq_true rfl) rfl ?_
  refine v_aload_n (pc := 0) 0 dX5_noteHere_0 rfl rfl ?_
  refine v_iconst (pc := 1) (v := 0) dX5_noteHere_1 (by decide) ?_
  refine v_iconst (pc := 2) (v := 5) dX5_noteHere_2 (by decide) ?_
  refine v_iload_n (pc := 3) 1 dX5_noteHere_3 rfl rfl ?_
  refine v_callV (pc := 4) (rest := []) [0, 1] 0 lk_928 (c_X5_other l E m0 ma mp mt mc ml mn mk mg mh mq nt pp tl se th rn ro to wt hn ho fa bk ba tok val tn sq he by_ r 0 5 so h_tl h_b h_md) dX5_noteHere_4 rfl rfl (Nat.le_of_ble_eq_true rfl) (by decide) rfl rfl rfl (by decide) rfl (by rintro _ _ ⟨_, _, _, _, _, _, _, rfl, _⟩; rfl) ?_
  rintro _ _ ⟨bk_4, ba_4, sp_4, he_4, to_4, va_4, rfl, rfl, hf4_0⟩
  refine v_w (ws' := [(m0, .inr (5, [.ref ma, .int (nI nt), .int (nI pp), .int (th), .ref mp, .int (rn), .int (ro), .int (to), .int (wt), .int (hn), .int (ho), .ref mt, .int (nI tl), .int (fa), .int (bk_4), .int (ba_4), .int (nI sp_4), .int (nI he_4), .int (to_4), .int (va_4), .ref mc, .ref ml, .ref mn, .int (nI se), .ref mk, .ref mg, .ref mh, .ref mq, .int (tn)])), (mt, .inl (E.2.1 1, 160, .inl (by_)))]) rfl ?_
  refine v_st (st' := [.int (othV by_ tl r 0 5 so)]) rfl ?_
  refine v_istore_n (pc := 7) (lv' := [(2, .int (othV by_ tl r 0 5 so)), (0, .ref m0), (1, .int (so))]) dX5_noteHere_7 rfl (by decide) rfl ?_
  refine v_aload_n (pc := 8) 1 dX5_noteHere_8 rfl rfl ?_
  refine v_iload_n (pc := 9) 0 dX5_noteHere_9 rfl rfl ?_
  refine v_aload_n (pc := 10) 1 dX5_noteHere_10 rfl rfl ?_
  refine gf_796 (pc := 11) 0 dX5_noteHere_11 rfl rfl ?_
  suffices J_14 : V l E RX5 cX5_noteHere 3 (Option.some FieldType.int) "noteHere" ({ frames := 3, cells := 0, slots := 0, locals := 70 }) [(m0, .inr (5, [.ref ma, .int (nI nt), .int (nI pp), .int (th), .ref mp, .int (rn), .int (ro), .int (to), .int (wt), .int (hn), .int (ho), .ref mt, .int (nI tl), .int (fa), .int (bk), .int (ba), .int (nI sq), .int (nI he), .int (tok), .int (val), .ref mc, .ref ml, .ref mn, .int (nI se), .ref mk, .ref mg, .ref mh, .ref mq, .int (tn)])), (mt, .inl (E.2.1 1, 160, .inl (by_)))] 0 0 (fun v wd => ∃ (bk_ : Int32) (ba_ : Int32) (sp_ : Nat) (he_ : Nat) (to_ : Int32) (va_ : Int32), v = some (.int (othV by_ tl r 0 5 so)) ∧ wd = [(m0, .inr (5, [.ref ma, .int (nI nt), .int (nI pp), .int (th), .ref mp, .int (rn), .int (ro), .int (to), .int (wt), .int (if (othV by_ tl r 0 5 so) ≤ (hn) then hn else othV by_ tl r 0 5 so), .int (ho), .ref mt, .int (nI tl), .int (fa), .int (bk_), .int (ba_), .int (nI sp_), .int (nI he_), .int (to_), .int (va_), .ref mc, .ref ml, .ref mn, .int (nI se), .ref mk, .ref mg, .ref mh, .ref mq, .int (tn)])), (mt, .inl (E.2.1 1, 160, .inl (by_)))] ∧ (Md by_ tl (othR by_ tl r 0 5 so) bk_ ba_ sp_ he_ to_ va_)) 0 0 25 [(2, .int (othV by_ tl r 0 5 so)), (0, .ref m0), (1, .int (so))] [.int (if (othV by_ tl r 0 5 so) ≤ (hn) then hn else othV by_ tl r 0 5 so), .ref m0] [(m0, .inr (5, [.ref ma, .int (nI nt), .int (nI pp), .int (th), .ref mp, .int (rn), .int (ro), .int (to), .int (wt), .int (hn), .int (ho), .ref mt, .int (nI tl), .int (fa), .int (bk_4), .int (ba_4), .int (nI sp_4), .int (nI he_4), .int (to_4), .int (va_4), .ref mc, .ref ml, .ref mn, .int (nI se), .ref mk, .ref mg, .ref mh, .ref mq, .int (tn)])), (mt, .inl (E.2.1 1, 160, .inl (by_)))] by
    refine v_icmp_le (pc := 14) 21 dX5_noteHere_14 (by decide) (fun c_14 => ?_) (fun c_14 => ?_)
    · skip
      refine v_aload_n (pc := 21) 1 dX5_noteHere_21 rfl rfl ?_
      refine gf_796 (pc := 22) 0 dX5_noteHere_22 rfl rfl ?_
      refine v_st ?_ J_14
      rw [if_pos (show (othV by_ tl r 0 5 so) ≤ (hn) from c_14)]
    · skip
      refine v_iload_n (pc := 17) 0 dX5_noteHere_17 rfl rfl ?_
      refine v_goto (pc := 18) 25 dX5_noteHere_18 (by decide) ?_
      refine v_st ?_ J_14
      rw [if_neg (show ¬ ((othV by_ tl r 0 5 so) ≤ (hn)) from (by first | exact c_14 | omega | exact fun q => q c_14))]
  refine pf_796 (pc := 25) (ws' := [(m0, .inr (5, [.ref ma, .int (nI nt), .int (nI pp), .int (th), .ref mp, .int (rn), .int (ro), .int (to), .int (wt), .int (if (othV by_ tl r 0 5 so) ≤ (hn) then hn else othV by_ tl r 0 5 so), .int (ho), .ref mt, .int (nI tl), .int (fa), .int (bk_4), .int (ba_4), .int (nI sp_4), .int (nI he_4), .int (to_4), .int (va_4), .ref mc, .ref ml, .ref mn, .int (nI se), .ref mk, .ref mg, .ref mh, .ref mq, .int (tn)])), (mt, .inl (E.2.1 1, 160, .inl (by_)))]) 0 dX5_noteHere_25 rfl rfl rfl (Nat.le_of_ble_eq_true rfl) rfl ?_
  refine v_iload_n (pc := 28) 0 dX5_noteHere_28 rfl rfl ?_
  refine v_iret (pc := 29) dX5_noteHere_29 rfl ⟨rfl, rfl⟩ ⟨(bk_4), (ba_4), (sp_4), (he_4), (to_4), (va_4), ?_, rfl, ?_⟩
  · skip
    rfl
  · skip
    exact hf4_0
theorem c_X5_oneHere (l : Launch) (E : VE) (m0 : Nat) (ma : Nat) (mp : Nat) (mt : Nat) (mc : Nat) (ml : Nat) (mn : Nat) (mk : Nat) (mg : Nat) (mh : Nat) (mq : Nat) (nt : Nat) (pp : Nat) (tl : Nat) (se : Nat) (th : Int32) (rn : Int32) (ro : Int32) (to : Int32) (wt : Int32) (hn : Int32) (ho : Int32) (fa : Int32) (bk : Int32) (ba : Int32) (tok : Int32) (val : Int32) (tn : Int32) (sq : Nat) (he : Nat) (by_ : Nat → Int32) (r : Int32 × Nat) (so : Int32) (h_tl : tl ≤ 160) (h_b : ∀ j, ¬ by_ j = -4) (h_md : Md by_ tl r bk ba sq he tok val) : Ct l E yX5_oneHere cX5_oneHere 3 (Option.some FieldType.int) 3 70 0 0 [.ref m0, .int (so)] [(m0, .inr (5, [.ref ma, .int (nI nt), .int (nI pp), .int (th), .ref mp, .int (rn), .int (ro), .int (to), .int (wt), .int (hn), .int (ho), .ref mt, .int (nI tl), .int (fa), .int (bk), .int (ba), .int (nI sq), .int (nI he), .int (tok), .int (val), .ref mc, .ref ml, .ref mn, .int (nI se), .ref mk, .ref mg, .ref mh, .ref mq, .int (tn)])), (mt, .inl (E.2.1 1, 160, .inl (by_)))] (fun v wd => ∃ (bk_ : Int32) (ba_ : Int32) (sp_ : Nat) (he_ : Nat) (to_ : Int32) (va_ : Int32), v = some (.int (othV by_ tl r 0 3 so)) ∧ wd = [(m0, .inr (5, [.ref ma, .int (nI nt), .int (nI pp), .int (th), .ref mp, .int (rn), .int (ro), .int (to), .int (wt), .int (hn), .int (if (othV by_ tl r 0 3 so) ≤ (ho) then ho else othV by_ tl r 0 3 so), .ref mt, .int (nI tl), .int (fa), .int (bk_), .int (ba_), .int (nI sp_), .int (nI he_), .int (to_), .int (va_), .ref mc, .ref ml, .ref mn, .int (nI se), .ref mk, .ref mg, .ref mh, .ref mq, .int (tn)])), (mt, .inl (E.2.1 1, 160, .inl (by_)))] ∧ (Md by_ tl (othR by_ tl r 0 3 so) bk_ ba_ sp_ he_ to_ va_)) := by
  refine Ct.of (own := RX5) (nm := "oneHere") (lv := [(0, .ref m0), (1, .int (so))]) (by decide) rfl rfl (Nat.le_of_ble_eq_true rfl) rfl ?_
  refine v_aload_n (pc := 0) 0 dX5_oneHere_0 rfl rfl ?_
  refine v_iconst (pc := 1) (v := 0) dX5_oneHere_1 (by decide) ?_
  refine v_iconst (pc := 2) (v := 3) dX5_oneHere_2 (by decide) ?_
  refine v_iload_n (pc := 3) 1 dX5_oneHere_3 rfl rfl ?_
  refine v_callV (pc := 4) (rest := []) [0, 1] 0 lk_928 (c_X5_other l E m0 ma mp mt mc ml mn mk mg mh mq nt pp tl se th rn ro to wt hn ho fa bk ba tok val tn sq he by_ r 0 3 so h_tl h_b h_md) dX5_oneHere_4 rfl rfl (Nat.le_of_ble_eq_true rfl) (by decide) rfl rfl rfl (by decide) rfl (by rintro _ _ ⟨_, _, _, _, _, _, _, rfl, _⟩; rfl) ?_
  rintro _ _ ⟨bk_4, ba_4, sp_4, he_4, to_4, va_4, rfl, rfl, hf4_0⟩
  refine v_w (ws' := [(m0, .inr (5, [.ref ma, .int (nI nt), .int (nI pp), .int (th), .ref mp, .int (rn), .int (ro), .int (to), .int (wt), .int (hn), .int (ho), .ref mt, .int (nI tl), .int (fa), .int (bk_4), .int (ba_4), .int (nI sp_4), .int (nI he_4), .int (to_4), .int (va_4), .ref mc, .ref ml, .ref mn, .int (nI se), .ref mk, .ref mg, .ref mh, .ref mq, .int (tn)])), (mt, .inl (E.2.1 1, 160, .inl (by_)))]) rfl ?_
  refine v_st (st' := [.int (othV by_ tl r 0 3 so)]) rfl ?_
  refine v_istore_n (pc := 7) (lv' := [(2, .int (othV by_ tl r 0 3 so)), (0, .ref m0), (1, .int (so))]) dX5_oneHere_7 rfl (by decide) rfl ?_
  refine v_aload_n (pc := 8) 1 dX5_oneHere_8 rfl rfl ?_
  refine v_iload_n (pc := 9) 0 dX5_oneHere_9 rfl rfl ?_
  refine v_aload_n (pc := 10) 1 dX5_oneHere_10 rfl rfl ?_
  refine gf_797 (pc := 11) 0 dX5_oneHere_11 rfl rfl ?_
  suffices J_14 : V l E RX5 cX5_oneHere 3 (Option.some FieldType.int) "oneHere" ({ frames := 3, cells := 0, slots := 0, locals := 70 }) [(m0, .inr (5, [.ref ma, .int (nI nt), .int (nI pp), .int (th), .ref mp, .int (rn), .int (ro), .int (to), .int (wt), .int (hn), .int (ho), .ref mt, .int (nI tl), .int (fa), .int (bk), .int (ba), .int (nI sq), .int (nI he), .int (tok), .int (val), .ref mc, .ref ml, .ref mn, .int (nI se), .ref mk, .ref mg, .ref mh, .ref mq, .int (tn)])), (mt, .inl (E.2.1 1, 160, .inl (by_)))] 0 0 (fun v wd => ∃ (bk_ : Int32) (ba_ : Int32) (sp_ : Nat) (he_ : Nat) (to_ : Int32) (va_ : Int32), v = some (.int (othV by_ tl r 0 3 so)) ∧ wd = [(m0, .inr (5, [.ref ma, .int (nI nt), .int (nI pp), .int (th), .ref mp, .int (rn), .int (ro), .int (to), .int (wt), .int (hn), .int (if (othV by_ tl r 0 3 so) ≤ (ho) then ho else othV by_ tl r 0 3 so), .ref mt, .int (nI tl), .int (fa), .int (bk_), .int (ba_), .int (nI sp_), .int (nI he_), .int (to_), .int (va_), .ref mc, .ref ml, .ref mn, .int (nI se), .ref mk, .ref mg, .ref mh, .ref mq, .int (tn)])), (mt, .inl (E.2.1 1, 160, .inl (by_)))] ∧ (Md by_ tl (othR by_ tl r 0 3 so) bk_ ba_ sp_ he_ to_ va_)) 0 0 25 [(2, .int (othV by_ tl r 0 3 so)), (0, .ref m0), (1, .int (so))] [.int (if (othV by_ tl r 0 3 so) ≤ (ho) then ho else othV by_ tl r 0 3 so), .ref m0] [(m0, .inr (5, [.ref ma, .int (nI nt), .int (nI pp), .int (th), .ref mp, .int (rn), .int (ro), .int (to), .int (wt), .int (hn), .int (ho), .ref mt, .int (nI tl), .int (fa), .int (bk_4), .int (ba_4), .int (nI sp_4), .int (nI he_4), .int (to_4), .int (va_4), .ref mc, .ref ml, .ref mn, .int (nI se), .ref mk, .ref mg, .ref mh, .ref mq, .int (tn)])), (mt, .inl (E.2.1 1, 160, .inl (by_)))] by
    refine v_icmp_le (pc := 14) 21 dX5_oneHere_14 (by decide) (fun c_14 => ?_) (fun c_14 => ?_)
    · skip
      refine v_aload_n (pc := 21) 1 dX5_oneHere_21 rfl rfl ?_
      refine gf_797 (pc := 22) 0 dX5_oneHere_22 rfl rfl ?_
      refine v_st ?_ J_14
      rw [if_pos (show (othV by_ tl r 0 3 so) ≤ (ho) from c_14)]
    · skip
      refine v_iload_n (pc := 17) 0 dX5_oneHere_17 rfl rfl ?_
      refine v_goto (pc := 18) 25 dX5_oneHere_18 (by decide) ?_
      refine v_st ?_ J_14
      rw [if_neg (show ¬ ((othV by_ tl r 0 3 so) ≤ (ho)) from (by first | exact c_14 | omega | exact fun q => q c_14))]
  refine pf_797 (pc := 25) (ws' := [(m0, .inr (5, [.ref ma, .int (nI nt), .int (nI pp), .int (th), .ref mp, .int (rn), .int (ro), .int (to), .int (wt), .int (hn), .int (if (othV by_ tl r 0 3 so) ≤ (ho) then ho else othV by_ tl r 0 3 so), .ref mt, .int (nI tl), .int (fa), .int (bk_4), .int (ba_4), .int (nI sp_4), .int (nI he_4), .int (to_4), .int (va_4), .ref mc, .ref ml, .ref mn, .int (nI se), .ref mk, .ref mg, .ref mh, .ref mq, .int (tn)])), (mt, .inl (E.2.1 1, 160, .inl (by_)))]) 0 dX5_oneHere_25 rfl rfl rfl (Nat.le_of_ble_eq_true rfl) rfl ?_
  refine v_iload_n (pc := 28) 0 dX5_oneHere_28 rfl rfl ?_
  refine v_iret (pc := 29) dX5_oneHere_29 rfl ⟨rfl, rfl⟩ ⟨(bk_4), (ba_4), (sp_4), (he_4), (to_4), (va_4), ?_, rfl, ?_⟩
  · skip
    rfl
  · skip
    exact hf4_0
theorem c_X5_isNumber (l : Launch) (E : VE) (m0 : Nat) (ma : Nat) (mp : Nat) (mt : Nat) (mc : Nat) (ml : Nat) (mn : Nat) (mk : Nat) (mg : Nat) (mh : Nat) (mq : Nat) (nt : Nat) (pp : Nat) (tl : Nat) (se : Nat) (th : Int32) (rn : Int32) (ro : Int32) (to : Int32) (wt : Int32) (hn : Int32) (ho : Int32) (fa : Int32) (bk : Int32) (ba : Int32) (spt : Int32) (hre : Int32) (tok : Int32) (val : Int32) (tn : Int32) : Ct l E yX5_isNumber cX5_isNumber 1 (Option.some FieldType.boolean) 0 0 0 0 [.ref m0] [(m0, .inr (5, [.ref ma, .int (nI nt), .int (nI pp), .int (th), .ref mp, .int (rn), .int (ro), .int (to), .int (wt), .int (hn), .int (ho), .ref mt, .int (nI tl), .int (fa), .int (bk), .int (ba), .int (spt), .int (hre), .int (tok), .int (val), .ref mc, .ref ml, .ref mn, .int (nI se), .ref mk, .ref mg, .ref mh, .ref mq, .int (tn)]))] (Rt (some (.int (if bk = 0 ∧ tok = 2 then 1 else 0))) [(m0, .inr (5, [.ref ma, .int (nI nt), .int (nI pp), .int (th), .ref mp, .int (rn), .int (ro), .int (to), .int (wt), .int (hn), .int (ho), .ref mt, .int (nI tl), .int (fa), .int (bk), .int (ba), .int (spt), .int (hre), .int (tok), .int (val), .ref mc, .ref ml, .ref mn, .int (nI se), .ref mk, .ref mg, .ref mh, .ref mq, .int (tn)]))]) := by
  refine Ct.of (own := RX5) (nm := "isNumber") (lv := [(0, .ref m0)]) (by decide) rfl rfl (Nat.le_of_ble_eq_true rfl) rfl ?_
  refine v_aload_n (pc := 0) 0 dX5_isNumber_0 rfl rfl ?_
  refine gf_801 (pc := 1) 0 dX5_isNumber_1 rfl rfl ?_
  refine v_if_ne (pc := 4) 19 dX5_isNumber_4 (by decide) (fun c_4 => ?_) (fun c_4 => ?_)
  · skip
    refine v_iconst (pc := 19) (v := 0) dX5_isNumber_19 (by decide) ?_
    refine v_zret (pc := 20) dX5_isNumber_20 rfl rfl ⟨rfl, rfl⟩ (Rt.i ?_)
    first | exact (if_pos (by simp only [okN, hldP, *, not_false_eq_true, not_true_eq_false, and_self, true_and, and_true, true_or, or_true])).symm | exact (if_neg (by simp only [okN, hldP, *, not_false_eq_true, not_true_eq_false, false_and, and_false, or_self, or_false, false_or])).symm
  · skip
    refine v_aload_n (pc := 7) 0 dX5_isNumber_7 rfl rfl ?_
    refine gf_805 (pc := 8) 0 dX5_isNumber_8 rfl rfl ?_
    refine v_iconst (pc := 11) (v := 2) dX5_isNumber_11 (by decide) ?_
    refine v_icmp_ne (pc := 12) 19 dX5_isNumber_12 (by decide) (fun c_12 => ?_) (fun c_12 => ?_)
    · skip
      refine v_iconst (pc := 19) (v := 0) dX5_isNumber_19 (by decide) ?_
      refine v_zret (pc := 20) dX5_isNumber_20 rfl rfl ⟨rfl, rfl⟩ (Rt.i ?_)
      first | exact (if_pos (by simp only [okN, hldP, *, not_false_eq_true, not_true_eq_false, and_self, true_and, and_true, true_or, or_true])).symm | exact (if_neg (by simp only [okN, hldP, *, not_false_eq_true, not_true_eq_false, false_and, and_false, or_self, or_false, false_or])).symm
    · skip
      refine v_iconst (pc := 15) (v := 1) dX5_isNumber_15 (by decide) ?_
      refine v_goto (pc := 16) 20 dX5_isNumber_16 (by decide) ?_
      refine v_zret (pc := 20) dX5_isNumber_20 rfl rfl ⟨rfl, rfl⟩ (Rt.i ?_)
      first | exact (if_pos (by simp only [okN, hldP, *, not_false_eq_true, not_true_eq_false, and_self, true_and, and_true, true_or, or_true])).symm | exact (if_neg (by simp only [okN, hldP, *, not_false_eq_true, not_true_eq_false, false_and, and_false, or_self, or_false, false_or])).symm
