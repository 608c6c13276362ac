/-! the model's lines: contracts -/
section LX
variable {b : Nat → Int32} {n sa p : Nat} {x : Int32} {s : PS}
theorem lnX_out (h : ¬ (¬ x.toInt64 < 0 ∧ ¬ 6 < x.toInt64)) : lnX b n sa p x s = (2, sa) := by
  unfold lnX
  rw [if_neg (fun e => h (by rw [e]; decide)), if_neg (fun e => h (by rw [e]; decide)), if_neg (fun e => h (by rw [e]; decide)), if_neg (fun e => h (by rw [e]; decide)), if_neg (fun e => h (by rw [e]; decide)), if_neg (fun e => h (by rw [e]; decide)), if_neg (fun e => h (by rw [e]; decide))]
theorem x_in (h : ¬ x.toInt64 < 0 ∧ ¬ 6 < x.toInt64) : x = 0 ∨ x = 1 ∨ x = 2 ∨ x = 3 ∨ x = 4 ∨ x = 5 ∨ x = 6 := by
  rw [show (6 : Int64) = (6 : Int32).toInt64 by decide, show (0 : Int64) = (0 : Int32).toInt64 by decide, inK] at h
  obtain ⟨j, hj, rfl⟩ := le_ex (b := 6) h.1 h.2 (by decide)
  rcases (show j = 0 ∨ j = 1 ∨ j = 2 ∨ j = 3 ∨ j = 4 ∨ j = 5 ∨ j = 6 by omega) with rfl | rfl | rfl | rfl | rfl | rfl | rfl <;> simp [nI] <;> decide
theorem lnX_ml (h : x = 0 ∨ x = 1 ∨ x = 2 ∨ x = 3 ∨ x = 4 ∨ x = 5 ∨ x = 6) (h0 : x = 0 → s.th = 0) (h1 : x = 1 → s.rl < 8) : lnX b n sa p x s = mlC b n p x s := by
  rcases h with rfl | rfl | rfl | rfl | rfl | rfl | rfl
  · show lnStreet b n p sa s.th = _
    unfold lnStreet; rw [if_pos (h0 rfl)]; rfl
  · show lnRule b n p sa s.rl s.tN = _
    unfold lnRule; rw [if_pos (h1 rfl)]; rfl
  all_goals rfl
theorem mlP_th (h : x = 0 ∨ x = 1 ∨ x = 2 ∨ x = 3 ∨ x = 4 ∨ x = 5 ∨ x = 6) (h0 : x = 0 → s.th = 0) : s.th + (if x = 0 then 1 else 0) = (mlP b n p x s).th := by
  rcases h with rfl | rfl | rfl | rfl | rfl | rfl | rfl
  · rw [h0 rfl]; rfl
  all_goals exact Int32.add_zero _
theorem ml_tok (h : x = 0 ∨ x = 1 ∨ x = 2 ∨ x = 3 ∨ x = 4 ∨ x = 5 ∨ x = 6) (hO : ¬ tkO b n p = true) : mlC b n p x s = (1, tkS b n p) := by
  rcases h with rfl | rfl | rfl | rfl | rfl | rfl | rfl
  · exact ckN_t hO
  · exact ckN_t hO
  · exact ckA_t hO
  · exact ckA_t hO
  · exact ckN_t hO
  · exact ckA_t hO
  · exact ckA_t hO
end LX
theorem c_X5_readMore (l : Launch) (E : VE) (m0 : Nat) (ma : Nat) (mp : Nat) (mt : Nat) (mc : Nat) (ml : Nat) (mn : Nat) (mk : Nat) (mg : Nat) (mh : Nat) (mq : Nat) (nt : Nat) (pp : Nat) (rl : Nat) (tl : Nat) (se : Nat) (th : Int32) (rn : Int32) (ro : Int32) (to : Int32) (wt : Int32) (hn : Int32) (ho : Int32) (fa : Int32) (bk : Int32) (ba : Int32) (tok : Int32) (val : Int32) (tn : Int32) (sq : Nat) (he : Nat) (by_ : Nat → Int32) (p : Nat) (x : Int32) (s : PS) (cf : Nat → Int32) (lf : Nat → Int32) (pg : Nat → Int32) (h_tl : tl ≤ 160) (h_b : ∀ j, ¬ by_ j = -4) (h_md : Md by_ tl (0, p) bk ba sq he tok val) (h_p : p ≤ tl) (h_x : x = 0 ∨ x = 1 ∨ x = 2 ∨ x = 3 ∨ x = 4 ∨ x = 5 ∨ x = 6) (h_rl : x = 1 → s.rl < 8) (h_pr : PRm s wt hn ho rn ro pg) (h_gs : GS s) (h_cf : ∀ k, k < 9 → cf k = nI (cutT.getD k 0)) (h_lf : ∀ k, k < 35 → lf k = letT.getD k 0) : Ct l E yX5_readMore cX5_readMore 3 (Option.none : Option Jvm.ClassFile.FieldType) 5 113 0 0 [.ref m0, .int (x)] [(m0, .inr (5, [.ref ma, .int (nI nt), .int (nI pp), .int (th), .ref mp, .int (rn), .int (ro), .int (to), .int (wt), .int (hn), .int (ho), .ref mt, .int (nI tl), .int (fa), .int (bk), .int (ba), .int (nI sq), .int (nI he), .int (tok), .int (val), .ref mc, .ref ml, .ref mn, .int (nI se), .ref mk, .ref mg, .ref mh, .ref mq, .int (tn)])), (mt, .inl (E.2.1 1, 160, .inl (by_))), (mp, .inl (E.2.1 1, 43, .inl (pg))), (mc, .inl (E.2.1 1, 9, .inl (cf))), (ml, .inl (E.2.1 1, 35, .inl (lf)))] (fun v wd => ∃ (bk_ : Int32) (ba_ : Int32) (sp_ : Nat) (he_ : Nat) (to_ : Int32) (va_ : Int32) (wt_ : Int32) (hn_ : Int32) (ho_ : Int32) (rn_ : Int32) (ro_ : Int32) (pg_ : Nat → Int32) (r_ : Int32 × Nat), v = none ∧ wd = [(m0, .inr (5, [.ref ma, .int (nI nt), .int (nI pp), .int (th), .ref mp, .int (rn_), .int (ro_), .int (to), .int (wt_), .int (hn_), .int (ho_), .ref mt, .int (nI tl), .int (fa), .int (bk_), .int (ba_), .int (nI sp_), .int (nI he_), .int (to_), .int (va_), .ref mc, .ref ml, .ref mn, .int (nI se), .ref mk, .ref mg, .ref mh, .ref mq, .int (tn)])), (mt, .inl (E.2.1 1, 160, .inl (by_))), (mp, .inl (E.2.1 1, 43, .inl (pg_))), (mc, .inl (E.2.1 1, 9, .inl (cf))), (ml, .inl (E.2.1 1, 35, .inl (lf)))] ∧ (Md by_ tl r_ bk_ ba_ sp_ he_ to_ va_) ∧ (mlC by_ tl p x s = andT by_ tl r_ (clK by_ tl r_.2)) ∧ (r_.1 = 0 → PRm (mlP by_ tl p x s) wt_ hn_ ho_ rn_ ro_ pg_)) := by
  refine Ct.of (own := RX5) (nm := "readMore") (lv := [(0, .ref m0), (1, .int (x))]) (by decide) rfl rfl (Nat.le_of_ble_eq_true rfl) rfl ?_
  refine v_iload_n (pc := 0) 1 dX5_readMore_0 rfl rfl ?_
  refine v_iconst (pc := 1) (v := 1) dX5_readMore_1 (by decide) ?_
  refine v_icmp_ne (pc := 2) 12 dX5_readMore_2 (by decide) (fun c_2 => ?_) (fun c_2 => ?_)
  · skip
    refine v_iload_n (pc := 12) 1 dX5_readMore_12 rfl rfl ?_
    refine v_iconst (pc := 13) (v := 2) dX5_readMore_13 (by decide) ?_
    refine v_icmp_eq (pc := 14) 22 dX5_readMore_14 (by decide) (fun c_14 => ?_) (fun c_14 => ?_)
    · skip
      refine v_aload_n (pc := 22) 0 dX5_readMore_22 rfl rfl ?_
      refine v_aload_n (pc := 23) 0 dX5_readMore_23 rfl rfl ?_
      refine gf_795 (pc := 24) 0 dX5_readMore_24 rfl rfl ?_
      refine v_callV (pc := 27) (rest := []) [0, 1] 0 lk_932 (c_X5_noteHere l E m0 ma mp mt mc ml mn mk mg mh mq nt pp tl se th rn ro to wt hn ho fa bk ba tok val tn sq he by_ ((0, p)) wt h_tl h_b h_md) dX5_readMore_27 rfl rfl (Nat.le_of_ble_eq_true rfl) (by decide) rfl rfl rfl (by decide) rfl (by rintro _ _ ⟨_, _, _, _, _, _, _, rfl, _⟩; rfl) ?_
      rintro _ _ ⟨bk_27, ba_27, sp_27, he_27, to_27, va_27, rfl, rfl, hf27_0⟩
      refine v_w (ws' := [(m0, .inr (5, [.ref ma, .int (nI nt), .int (nI pp), .int (th), .ref mp, .int (rn), .int (ro), .int (to), .int (wt), .int (if (othV by_ tl ((0, p)) 0 5 wt) ≤ (hn) then hn else othV by_ tl ((0, p)) 0 5 wt), .int (ho), .ref mt, .int (nI tl), .int (fa), .int (bk_27), .int (ba_27), .int (nI sp_27), .int (nI he_27), .int (to_27), .int (va_27), .ref mc, .ref ml, .ref mn, .int (nI se), .ref mk, .ref mg, .ref mh, .ref mq, .int (tn)])), (mt, .inl (E.2.1 1, 160, .inl (by_))), (mp, .inl (E.2.1 1, 43, .inl (pg))), (mc, .inl (E.2.1 1, 9, .inl (cf))), (ml, .inl (E.2.1 1, 35, .inl (lf)))]) rfl ?_
      refine v_st (st' := [.int (othV by_ tl ((0, p)) 0 5 wt)]) rfl ?_
      refine v_istore_n (pc := 30) (lv' := [(2, .int (othV by_ tl ((0, p)) 0 5 wt)), (0, .ref m0), (1, .int (x))]) dX5_readMore_30 rfl (by decide) rfl ?_
      refine v_aload_n (pc := 31) 1 dX5_readMore_31 rfl rfl ?_
      refine v_dup (pc := 32) dX5_readMore_32 rfl ?_
      refine gf_795 (pc := 33) 0 dX5_readMore_33 rfl rfl ?_
      refine v_iconst (pc := 36) (v := 1) dX5_readMore_36 (by decide) ?_
      refine v_iload_n (pc := 37) 0 dX5_readMore_37 rfl rfl ?_
      refine v_ishl (pc := 38) dX5_readMore_38 ?_
      refine v_ior (pc := 39) dX5_readMore_39 ?_
      refine pf_795 (pc := 40) (ws' := [(m0, .inr (5, [.ref ma, .int (nI nt), .int (nI pp), .int (th), .ref mp, .int (rn), .int (ro), .int (to), .int ((wt) ||| ((1 : Int32) <<< ((othV by_ tl ((0, p)) 0 5 wt) &&& 31))), .int (if (othV by_ tl ((0, p)) 0 5 wt) ≤ (hn) then hn else othV by_ tl ((0, p)) 0 5 wt), .int (ho), .ref mt, .int (nI tl), .int (fa), .int (bk_27), .int (ba_27), .int (nI sp_27), .int (nI he_27), .int (to_27), .int (va_27), .ref mc, .ref ml, .ref mn, .int (nI se), .ref mk, .ref mg, .ref mh, .ref mq, .int (tn)])), (mt, .inl (E.2.1 1, 160, .inl (by_))), (mp, .inl (E.2.1 1, 43, .inl (pg))), (mc, .inl (E.2.1 1, 9, .inl (cf))), (ml, .inl (E.2.1 1, 35, .inl (lf)))]) 0 dX5_readMore_40 rfl rfl rfl (Nat.le_of_ble_eq_true rfl) rfl ?_
      refine v_aload_n (pc := 43) 1 dX5_readMore_43 rfl rfl ?_
      refine gf_791 (pc := 44) 0 dX5_readMore_44 rfl rfl ?_
      refine v_iload_n (pc := 47) 0 dX5_readMore_47 rfl rfl ?_
      refine v_aload_n (pc := 48) 1 dX5_readMore_48 rfl rfl ?_
      refine v_iconst (pc := 49) (v := 0) dX5_readMore_49 (by decide) ?_
      refine v_bipush (pc := 50) (v := 9) dX5_readMore_50 (by decide) ?_
      refine v_iconst (pc := 52) (v := 0) dX5_readMore_52 (by decide) ?_
      refine v_callV (pc := 53) (rest := [.int (othV by_ tl ((0, p)) 0 5 wt), .ref mp]) [0, 1] 0 lk_928 (c_X5_other l E m0 ma mp mt mc ml mn mk mg mh mq nt pp tl se th rn ro to ((wt) ||| ((1 : Int32) <<< ((othV by_ tl ((0, p)) 0 5 wt) &&& 31))) (if (othV by_ tl ((0, p)) 0 5 wt) ≤ (hn) then hn else othV by_ tl ((0, p)) 0 5 wt) ho fa bk_27 ba_27 to_27 va_27 tn sp_27 he_27 by_ (othR by_ tl (0, p) 0 5 wt) 0 9 0 h_tl h_b hf27_0) dX5_readMore_53 rfl rfl (Nat.le_of_ble_eq_true rfl) (by decide) rfl rfl rfl (by decide) rfl (by rintro _ _ ⟨_, _, _, _, _, _, _, rfl, _⟩; rfl) ?_
      rintro _ _ ⟨bk_53, ba_53, sp_53, he_53, to_53, va_53, rfl, rfl, hf53_0⟩
      refine v_w (ws' := [(m0, .inr (5, [.ref ma, .int (nI nt), .int (nI pp), .int (th), .ref mp, .int (rn), .int (ro), .int (to), .int (((wt) ||| ((1 : Int32) <<< ((othV by_ tl ((0, p)) 0 5 wt) &&& 31)))), .int ((if (othV by_ tl ((0, p)) 0 5 wt) ≤ (hn) then hn else othV by_ tl ((0, p)) 0 5 wt)), .int (ho), .ref mt, .int (nI tl), .int (fa), .int (bk_53), .int (ba_53), .int (nI sp_53), .int (nI he_53), .int (to_53), .int (va_53), .ref mc, .ref ml, .ref mn, .int (nI se), .ref mk, .ref mg, .ref mh, .ref mq, .int (tn)])), (mt, .inl (E.2.1 1, 160, .inl (by_))), (mp, .inl (E.2.1 1, 43, .inl (pg))), (mc, .inl (E.2.1 1, 9, .inl (cf))), (ml, .inl (E.2.1 1, 35, .inl (lf)))]) rfl ?_
      refine v_st (st' := [.int (othV by_ tl (othR by_ tl (0, p) 0 5 wt) 0 9 0), .int (othV by_ tl ((0, p)) 0 5 wt), .ref mp]) rfl ?_
      refine v_iload_n (pc := 56) 2 dX5_readMore_56 rfl rfl ?_
      refine v_iconst (pc := 57) (v := 3) dX5_readMore_57 (by decide) ?_
      suffices J_58 : V l E RX5 cX5_readMore 3 (Option.none : Option Jvm.ClassFile.FieldType) "readMore" ({ frames := 5, cells := 0, slots := 0, locals := 113 }) [(m0, .inr (5, [.ref ma, .int (nI nt), .int (nI pp), .int (th), .ref mp, .int (rn), .int (ro), .int (to), .int (wt), .int (hn), .int (ho), .ref mt, .int (nI tl), .int (fa), .int (bk), .int (ba), .int (nI sq), .int (nI he), .int (tok), .int (val), .ref mc, .ref ml, .ref mn, .int (nI se), .ref mk, .ref mg, .ref mh, .ref mq, .int (tn)])), (mt, .inl (E.2.1 1, 160, .inl (by_))), (mp, .inl (E.2.1 1, 43, .inl (pg))), (mc, .inl (E.2.1 1, 9, .inl (cf))), (ml, .inl (E.2.1 1, 35, .inl (lf)))] 0 0 (fun v wd => ∃ (bk_ : Int32) (ba_ : Int32) (sp_ : Nat) (he_ : Nat) (to_ : Int32) (va_ : Int32) (wt_ : Int32) (hn_ : Int32) (ho_ : Int32) (rn_ : Int32) (ro_ : Int32) (pg_ : Nat → Int32) (r_ : Int32 × Nat), v = none ∧ wd = [(m0, .inr (5, [.ref ma, .int (nI nt), .int (nI pp), .int (th), .ref mp, .int (rn_), .int (ro_), .int (to), .int (wt_), .int (hn_), .int (ho_), .ref mt, .int (nI tl), .int (fa), .int (bk_), .int (ba_), .int (nI sp_), .int (nI he_), .int (to_), .int (va_), .ref mc, .ref ml, .ref mn, .int (nI se), .ref mk, .ref mg, .ref mh, .ref mq, .int (tn)])), (mt, .inl (E.2.1 1, 160, .inl (by_))), (mp, .inl (E.2.1 1, 43, .inl (pg_))), (mc, .inl (E.2.1 1, 9, .inl (cf))), (ml, .inl (E.2.1 1, 35, .inl (lf)))] ∧ (Md by_ tl r_ bk_ ba_ sp_ he_ to_ va_) ∧ (mlC by_ tl p x s = andT by_ tl r_ (clK by_ tl r_.2)) ∧ (r_.1 = 0 → PRm (mlP by_ tl p x s) wt_ hn_ ho_ rn_ ro_ pg_)) 0 0 66 [(2, .int (othV by_ tl ((0, p)) 0 5 wt)), (0, .ref m0), (1, .int (x))] [.int (if ¬ (x) = (3) then 1 else -1), .int (othV by_ tl (othR by_ tl (0, p) 0 5 wt) 0 9 0), .int (othV by_ tl ((0, p)) 0 5 wt), .ref mp] [(m0, .inr (5, [.ref ma, .int (nI nt), .int (nI pp), .int (th), .ref mp, .int (rn), .int (ro), .int (to), .int (((wt) ||| ((1 : Int32) <<< ((othV by_ tl ((0, p)) 0 5 wt) &&& 31)))), .int ((if (othV by_ tl ((0, p)) 0 5 wt) ≤ (hn) then hn else othV by_ tl ((0, p)) 0 5 wt)), .int (ho), .ref mt, .int (nI tl), .int (fa), .int (bk_53), .int (ba_53), .int (nI sp_53), .int (nI he_53), .int (to_53), .int (va_53), .ref mc, .ref ml, .ref mn, .int (nI se), .ref mk, .ref mg, .ref mh, .ref mq, .int (tn)])), (mt, .inl (E.2.1 1, 160, .inl (by_))), (mp, .inl (E.2.1 1, 43, .inl (pg))), (mc, .inl (E.2.1 1, 9, .inl (cf))), (ml, .inl (E.2.1 1, 35, .inl (lf)))] by
        refine v_icmp_ne (pc := 58) 65 dX5_readMore_58 (by decide) (fun c_58 => ?_) (fun c_58 => ?_)
        · skip
          refine v_iconst (pc := 65) (v := 1) dX5_readMore_65 (by decide) ?_
          refine v_st ?_ J_58
          rw [if_pos (show ¬ (x) = (3) from c_58)]
        · skip
          refine v_iconst (pc := 61) (v := -1) dX5_readMore_61 (by decide) ?_
          refine v_goto (pc := 62) 66 dX5_readMore_62 (by decide) ?_
          refine v_st ?_ J_58
          rw [if_neg (show ¬ (¬ (x) = (3)) from (by first | exact c_58 | omega | exact fun q => q c_58))]
      refine v_imul (pc := 66) dX5_readMore_66 ?_
      refine v_iast (pc := 67) (ws' := [(m0, .inr (5, [.ref ma, .int (nI nt), .int (nI pp), .int (th), .ref mp, .int (rn), .int (ro), .int (to), .int (((wt) ||| ((1 : Int32) <<< ((othV by_ tl ((0, p)) 0 5 wt) &&& 31)))), .int ((if (othV by_ tl ((0, p)) 0 5 wt) ≤ (hn) then hn else othV by_ tl ((0, p)) 0 5 wt)), .int (ho), .ref mt, .int (nI tl), .int (fa), .int (bk_53), .int (ba_53), .int (nI sp_53), .int (nI he_53), .int (to_53), .int (va_53), .ref mc, .ref ml, .ref mn, .int (nI se), .ref mk, .ref mg, .ref mh, .ref mq, .int (tn)])), (mt, .inl (E.2.1 1, 160, .inl (by_))), (mp, .inl (E.2.1 1, 43, .inl (upd (pg) (Int32.toNatClampNeg (othV by_ tl ((0, p)) 0 5 wt)) ((othV by_ tl (othR by_ tl (0, p) 0 5 wt) 0 9 0) * (if ¬ (x) = (3) then 1 else -1))))), (mc, .inl (E.2.1 1, 9, .inl (cf))), (ml, .inl (E.2.1 1, 35, .inl (lf)))]) 2 1 dX5_readMore_67 rfl rfl (by obtain ⟨y, hy, e⟩ := (othV_in (b := by_) (n := tl) (r := (0, p)) (so := wt)); rw [e]; exact vp_in_nI (by omega) (by decide)) rfl ?_
      refine v_goto (pc := 68) 188 dX5_readMore_68 (by decide) ?_
      refine v_vret (pc := 188) dX5_readMore_188 rfl ⟨rfl, rfl⟩ ⟨(bk_53), (ba_53), (sp_53), (he_53), (to_53), (va_53), (((wt) ||| ((1 : Int32) <<< ((othV by_ tl ((0, p)) 0 5 wt) &&& 31)))), ((if (othV by_ tl ((0, p)) 0 5 wt) ≤ (hn) then hn else othV by_ tl ((0, p)) 0 5 wt)), (ho), (rn), (ro), (upd (pg) (Int32.toNatClampNeg (othV by_ tl ((0, p)) 0 5 wt)) ((othV by_ tl (othR by_ tl (0, p) 0 5 wt) 0 9 0) * (if ¬ (x) = (3) then 1 else -1))), (othR by_ tl (othR by_ tl (0, p) 0 5 wt) 0 9 0), ?_, rfl, ?_, ?_, ?_⟩
      · skip
        rfl
      · skip
        exact hf53_0
      · skip
        subst c_14
        have hC : mlC by_ tl p 2 s = lnWorth by_ tl p s.tpd := rfl
        rw [hC]; rw [← h_pr.1]; exact lw_eq
      · skip
        intro q
        subst c_14
        have hC : mlC by_ tl p 2 s = lnWorth by_ tl p s.tpd := rfl
        obtain ⟨z1, -, z3, -, z5, z6⟩ := othR_ok q
        obtain ⟨-, -, y3, -, y5, y6⟩ := othR_ok z1
        rw [y5] at z3
        have z7 := z6.trans (congrArg (fun z => tkV by_ tl z 0) (congrArg Prod.snd y5))
        have hv : Wd 6 (othV by_ tl (0, p) 0 5 wt) := othV_in
        exact PR_worth h_pr h_gs hv y6 z7
    · skip
      refine v_iload_n (pc := 17) 1 dX5_readMore_17 rfl rfl ?_
      refine v_iconst (pc := 18) (v := 3) dX5_readMore_18 (by decide) ?_
      refine v_icmp_ne (pc := 19) 71 dX5_readMore_19 (by decide) (fun c_19 => ?_) (fun c_19 => ?_)
      · skip
        refine v_iload_n (pc := 71) 1 dX5_readMore_71 rfl rfl ?_
        refine v_iconst (pc := 72) (v := 4) dX5_readMore_72 (by decide) ?_
        refine v_icmp_ne (pc := 73) 102 dX5_readMore_73 (by decide) (fun c_73 => ?_) (fun c_73 => ?_)
        · skip
          refine v_iload_n (pc := 102) 1 dX5_readMore_102 rfl rfl ?_
          refine v_iconst (pc := 103) (v := 5) dX5_readMore_103 (by decide) ?_
          refine v_icmp_ne (pc := 104) 133 dX5_readMore_104 (by decide) (fun c_104 => ?_) (fun c_104 => ?_)
          · skip
            refine v_iload_n (pc := 133) 1 dX5_readMore_133 rfl rfl ?_
            refine v_bipush (pc := 134) (v := 6) dX5_readMore_134 (by decide) ?_
            refine v_icmp_ne (pc := 136) 165 dX5_readMore_136 (by decide) (fun c_136 => ?_) (fun c_136 => ?_)
            · skip
              refine v_aload_n (pc := 165) 0 dX5_readMore_165 rfl rfl ?_
              refine v_aload_n (pc := 166) 0 dX5_readMore_166 rfl rfl ?_
              refine v_iconst (pc := 167) (v := 1) dX5_readMore_167 (by decide) ?_
              refine v_bipush (pc := 168) (v := 6) dX5_readMore_168 (by decide) ?_
              refine v_iconst (pc := 170) (v := 0) dX5_readMore_170 (by decide) ?_
              refine v_callV (pc := 171) (rest := [.ref m0]) [0, 1] 0 lk_928 (c_X5_other l E m0 ma mp mt mc ml mn mk mg mh mq nt pp tl se th rn ro to wt hn ho fa bk ba tok val tn sq he by_ ((0, p)) 1 6 0 h_tl h_b h_md) dX5_readMore_171 rfl rfl (Nat.le_of_ble_eq_true rfl) (by decide) rfl rfl rfl (by decide) rfl (by rintro _ _ ⟨_, _, _, _, _, _, _, rfl, _⟩; rfl) ?_
              rintro _ _ ⟨bk_171, ba_171, sp_171, he_171, to_171, va_171, rfl, rfl, hf171_0⟩
              refine v_w (ws' := [(m0, .inr (5, [.ref ma, .int (nI nt), .int (nI pp), .int (th), .ref mp, .int (rn), .int (ro), .int (to), .int (wt), .int (hn), .int (ho), .ref mt, .int (nI tl), .int (fa), .int (bk_171), .int (ba_171), .int (nI sp_171), .int (nI he_171), .int (to_171), .int (va_171), .ref mc, .ref ml, .ref mn, .int (nI se), .ref mk, .ref mg, .ref mh, .ref mq, .int (tn)])), (mt, .inl (E.2.1 1, 160, .inl (by_))), (mp, .inl (E.2.1 1, 43, .inl (pg))), (mc, .inl (E.2.1 1, 9, .inl (cf))), (ml, .inl (E.2.1 1, 35, .inl (lf)))]) rfl ?_
              refine v_st (st' := [.int (othV by_ tl ((0, p)) 1 6 0), .ref m0]) rfl ?_
              refine pf_792 (pc := 174) (ws' := [(m0, .inr (5, [.ref ma, .int (nI nt), .int (nI pp), .int (th), .ref mp, .int (othV by_ tl ((0, p)) 1 6 0), .int (ro), .int (to), .int (wt), .int (hn), .int (ho), .ref mt, .int (nI tl), .int (fa), .int (bk_171), .int (ba_171), .int (nI sp_171), .int (nI he_171), .int (to_171), .int (va_171), .ref mc, .ref ml, .ref mn, .int (nI se), .ref mk, .ref mg, .ref mh, .ref mq, .int (tn)])), (mt, .inl (E.2.1 1, 160, .inl (by_))), (mp, .inl (E.2.1 1, 43, .inl (pg))), (mc, .inl (E.2.1 1, 9, .inl (cf))), (ml, .inl (E.2.1 1, 35, .inl (lf)))]) 0 dX5_readMore_174 rfl rfl rfl (Nat.le_of_ble_eq_true rfl) rfl ?_
              refine v_aload_n (pc := 177) 0 dX5_readMore_177 rfl rfl ?_
              refine v_aload_n (pc := 178) 0 dX5_readMore_178 rfl rfl ?_
              refine v_iconst (pc := 179) (v := 1) dX5_readMore_179 (by decide) ?_
              refine v_iconst (pc := 180) (v := 4) dX5_readMore_180 (by decide) ?_
              refine v_iconst (pc := 181) (v := 0) dX5_readMore_181 (by decide) ?_
              refine v_callV (pc := 182) (rest := [.ref m0]) [0, 1] 0 lk_928 (c_X5_other l E m0 ma mp mt mc ml mn mk mg mh mq nt pp tl se th (othV by_ tl ((0, p)) 1 6 0) ro to wt hn ho fa bk_171 ba_171 to_171 va_171 tn sp_171 he_171 by_ (othR by_ tl (0, p) 1 6 0) 1 4 0 h_tl h_b hf171_0) dX5_readMore_182 rfl rfl (Nat.le_of_ble_eq_true rfl) (by decide) rfl rfl rfl (by decide) rfl (by rintro _ _ ⟨_, _, _, _, _, _, _, rfl, _⟩; rfl) ?_
              rintro _ _ ⟨bk_182, ba_182, sp_182, he_182, to_182, va_182, rfl, rfl, hf182_0⟩
              refine v_w (ws' := [(m0, .inr (5, [.ref ma, .int (nI nt), .int (nI pp), .int (th), .ref mp, .int ((othV by_ tl ((0, p)) 1 6 0)), .int (ro), .int (to), .int (wt), .int (hn), .int (ho), .ref mt, .int (nI tl), .int (fa), .int (bk_182), .int (ba_182), .int (nI sp_182), .int (nI he_182), .int (to_182), .int (va_182), .ref mc, .ref ml, .ref mn, .int (nI se), .ref mk, .ref mg, .ref mh, .ref mq, .int (tn)])), (mt, .inl (E.2.1 1, 160, .inl (by_))), (mp, .inl (E.2.1 1, 43, .inl (pg))), (mc, .inl (E.2.1 1, 9, .inl (cf))), (ml, .inl (E.2.1 1, 35, .inl (lf)))]) rfl ?_
              refine v_st (st' := [.int (othV by_ tl (othR by_ tl (0, p) 1 6 0) 1 4 0), .ref m0]) rfl ?_
              refine pf_793 (pc := 185) (ws' := [(m0, .inr (5, [.ref ma, .int (nI nt), .int (nI pp), .int (th), .ref mp, .int ((othV by_ tl ((0, p)) 1 6 0)), .int (othV by_ tl (othR by_ tl (0, p) 1 6 0) 1 4 0), .int (to), .int (wt), .int (hn), .int (ho), .ref mt, .int (nI tl), .int (fa), .int (bk_182), .int (ba_182), .int (nI sp_182), .int (nI he_182), .int (to_182), .int (va_182), .ref mc, .ref ml, .ref mn, .int (nI se), .ref mk, .ref mg, .ref mh, .ref mq, .int (tn)])), (mt, .inl (E.2.1 1, 160, .inl (by_))), (mp, .inl (E.2.1 1, 43, .inl (pg))), (mc, .inl (E.2.1 1, 9, .inl (cf))), (ml, .inl (E.2.1 1, 35, .inl (lf)))]) 0 dX5_readMore_185 rfl rfl rfl (Nat.le_of_ble_eq_true rfl) rfl ?_
              refine v_vret (pc := 188) dX5_readMore_188 rfl ⟨rfl, rfl⟩ ⟨(bk_182), (ba_182), (sp_182), (he_182), (to_182), (va_182), (wt), (hn), (ho), ((othV by_ tl ((0, p)) 1 6 0)), (othV by_ tl (othR by_ tl (0, p) 1 6 0) 1 4 0), (pg), (othR by_ tl (othR by_ tl (0, p) 1 6 0) 1 4 0), ?_, rfl, ?_, ?_, ?_⟩
              · skip
                rfl
              · skip
                exact hf182_0
              · skip
                obtain rfl : x = 0 := by
                  rcases h_x with q | q | q | q | q | q | q
                  · exact q
                  · exact absurd q c_2
                  · exact absurd q c_14
                  · exact absurd q c_19
                  · exact absurd q c_73
                  · exact absurd q c_104
                  · exact absurd q c_136
                have hC : mlC by_ tl p 0 s = ckN by_ tl p 1 6 (ckN by_ tl (tkN by_ tl p) 1 4 (ckC by_ tl (tkN by_ tl (tkN by_ tl p)))) := rfl
                rw [hC]; exact lst_eq
              · skip
                intro q
                obtain rfl : x = 0 := by
                  rcases h_x with q | q | q | q | q | q | q
                  · exact q
                  · exact absurd q c_2
                  · exact absurd q c_14
                  · exact absurd q c_19
                  · exact absurd q c_73
                  · exact absurd q c_104
                  · exact absurd q c_136
                have hC : mlC by_ tl p 0 s = ckN by_ tl p 1 6 (ckN by_ tl (tkN by_ tl p) 1 4 (ckC by_ tl (tkN by_ tl (tkN by_ tl p)))) := rfl
                obtain ⟨z1, -, z3, -, z5, z6⟩ := othR_ok q
                obtain ⟨-, -, y3, -, y5, y6⟩ := othR_ok z1
                rw [y5] at z3
                have z7 := z6.trans (congrArg (fun z => tkV by_ tl z 0) (congrArg Prod.snd y5))
                exact PR_street h_pr y6 z7 (nuC_cl y3 (by decide)) (nuC_cl z3 (by decide))
            · skip
              refine v_aload_n (pc := 139) 0 dX5_readMore_139 rfl rfl ?_
              refine gf_791 (pc := 140) 0 dX5_readMore_140 rfl rfl ?_
              refine v_bipush (pc := 143) (v := 41) dX5_readMore_143 (by decide) ?_
              refine v_dup2 (pc := 145) dX5_readMore_145 rfl rfl ?_
              refine v_ialdN (pc := 146) 2 1 (41) dX5_readMore_146 rfl rfl rfl (by decide) (by decide) ?_
              refine v_iconst (pc := 147) (v := 1) dX5_readMore_147 (by decide) ?_
              refine v_aload_n (pc := 148) 0 dX5_readMore_148 rfl rfl ?_
              refine v_aload_n (pc := 149) 0 dX5_readMore_149 rfl rfl ?_
              refine gf_791 (pc := 150) 0 dX5_readMore_150 rfl rfl ?_
              refine v_bipush (pc := 153) (v := 41) dX5_readMore_153 (by decide) ?_
              refine v_ialdN (pc := 155) 2 1 (41) dX5_readMore_155 rfl rfl rfl (by decide) (by decide) ?_
              refine v_callV (pc := 156) (rest := [.int (1), .int (pg 41), .int (41), .ref mp]) [0, 1] 0 lk_932 (c_X5_noteHere l E m0 ma mp mt mc ml mn mk mg mh mq nt pp tl se th rn ro to wt hn ho fa bk ba tok val tn sq he by_ ((0, p)) (pg 41) h_tl h_b h_md) dX5_readMore_156 rfl rfl (Nat.le_of_ble_eq_true rfl) (by decide) rfl rfl rfl (by decide) rfl (by rintro _ _ ⟨_, _, _, _, _, _, _, rfl, _⟩; rfl) ?_
              rintro _ _ ⟨bk_156, ba_156, sp_156, he_156, to_156, va_156, rfl, rfl, hf156_0⟩
              refine v_w (ws' := [(m0, .inr (5, [.ref ma, .int (nI nt), .int (nI pp), .int (th), .ref mp, .int (rn), .int (ro), .int (to), .int (wt), .int (if (othV by_ tl ((0, p)) 0 5 (pg 41)) ≤ (hn) then hn else othV by_ tl ((0, p)) 0 5 (pg 41)), .int (ho), .ref mt, .int (nI tl), .int (fa), .int (bk_156), .int (ba_156), .int (nI sp_156), .int (nI he_156), .int (to_156), .int (va_156), .ref mc, .ref ml, .ref mn, .int (nI se), .ref mk, .ref mg, .ref mh, .ref mq, .int (tn)])), (mt, .inl (E.2.1 1, 160, .inl (by_))), (mp, .inl (E.2.1 1, 43, .inl (pg))), (mc, .inl (E.2.1 1, 9, .inl (cf))), (ml, .inl (E.2.1 1, 35, .inl (lf)))]) rfl ?_
              refine v_st (st' := [.int (othV by_ tl ((0, p)) 0 5 (pg 41)), .int (1), .int (pg 41), .int (41), .ref mp]) rfl ?_
              refine v_ishl (pc := 159) dX5_readMore_159 ?_
              refine v_ior (pc := 160) dX5_readMore_160 ?_
              refine v_iastN (pc := 161) (ws' := [(m0, .inr (5, [.ref ma, .int (nI nt), .int (nI pp), .int (th), .ref mp, .int (rn), .int (ro), .int (to), .int (wt), .int (if (othV by_ tl ((0, p)) 0 5 (pg 41)) ≤ (hn) then hn else othV by_ tl ((0, p)) 0 5 (pg 41)), .int (ho), .ref mt, .int (nI tl), .int (fa), .int (bk_156), .int (ba_156), .int (nI sp_156), .int (nI he_156), .int (to_156), .int (va_156), .ref mc, .ref ml, .ref mn, .int (nI se), .ref mk, .ref mg, .ref mh, .ref mq, .int (tn)])), (mt, .inl (E.2.1 1, 160, .inl (by_))), (mp, .inl (E.2.1 1, 43, .inl (upd (pg) (41) ((pg 41) ||| ((1 : Int32) <<< ((othV by_ tl ((0, p)) 0 5 (pg 41)) &&& 31)))))), (mc, .inl (E.2.1 1, 9, .inl (cf))), (ml, .inl (E.2.1 1, 35, .inl (lf)))]) 2 1 (41) dX5_readMore_161 rfl rfl rfl (by decide) (by decide) rfl ?_
              refine v_goto (pc := 162) 188 dX5_readMore_162 (by decide) ?_
              refine v_vret (pc := 188) dX5_readMore_188 rfl ⟨rfl, rfl⟩ ⟨(bk_156), (ba_156), (sp_156), (he_156), (to_156), (va_156), (wt), (if (othV by_ tl ((0, p)) 0 5 (pg 41)) ≤ (hn) then hn else othV by_ tl ((0, p)) 0 5 (pg 41)), (ho), (rn), (ro), (upd (pg) (41) ((pg 41) ||| ((1 : Int32) <<< ((othV by_ tl ((0, p)) 0 5 (pg 41)) &&& 31)))), (othR by_ tl (0, p) 0 5 (pg 41)), ?_, rfl, ?_, ?_, ?_⟩
              · skip
                rfl
              · skip
                exact hf156_0
              · skip
                subst c_136
                have hC : mlC by_ tl p 6 s = lnStop by_ tl p s.td := rfl
                rw [hC]; rw [← h_pr.2.2.2.2.2.2.2.2.1]; exact lsp_eq
              · skip
                intro q
                subst c_136
                have hC : mlC by_ tl p 6 s = lnStop by_ tl p s.td := rfl
                obtain ⟨-, -, y3, -, -, y6⟩ := othR_ok q
                exact PR_today h_pr h_gs (by rw [y6]; exact nu_W y3) y6
          · skip
            refine v_aload_n (pc := 107) 0 dX5_readMore_107 rfl rfl ?_
            refine gf_791 (pc := 108) 0 dX5_readMore_108 rfl rfl ?_
            refine v_bipush (pc := 111) (v := 40) dX5_readMore_111 (by decide) ?_
            refine v_dup2 (pc := 113) dX5_readMore_113 rfl rfl ?_
            refine v_ialdN (pc := 114) 2 1 (40) dX5_readMore_114 rfl rfl rfl (by decide) (by decide) ?_
            refine v_iconst (pc := 115) (v := 1) dX5_readMore_115 (by decide) ?_
            refine v_aload_n (pc := 116) 0 dX5_readMore_116 rfl rfl ?_
            refine v_aload_n (pc := 117) 0 dX5_readMore_117 rfl rfl ?_
            refine gf_791 (pc := 118) 0 dX5_readMore_118 rfl rfl ?_
            refine v_bipush (pc := 121) (v := 40) dX5_readMore_121 (by decide) ?_
            refine v_ialdN (pc := 123) 2 1 (40) dX5_readMore_123 rfl rfl rfl (by decide) (by decide) ?_
            refine v_callV (pc := 124) (rest := [.int (1), .int (pg 40), .int (40), .ref mp]) [0, 1] 0 lk_932 (c_X5_noteHere l E m0 ma mp mt mc ml mn mk mg mh mq nt pp tl se th rn ro to wt hn ho fa bk ba tok val tn sq he by_ ((0, p)) (pg 40) h_tl h_b h_md) dX5_readMore_124 rfl rfl (Nat.le_of_ble_eq_true rfl) (by decide) rfl rfl rfl (by decide) rfl (by rintro _ _ ⟨_, _, _, _, _, _, _, rfl, _⟩; rfl) ?_
            rintro _ _ ⟨bk_124, ba_124, sp_124, he_124, to_124, va_124, rfl, rfl, hf124_0⟩
            refine v_w (ws' := [(m0, .inr (5, [.ref ma, .int (nI nt), .int (nI pp), .int (th), .ref mp, .int (rn), .int (ro), .int (to), .int (wt), .int (if (othV by_ tl ((0, p)) 0 5 (pg 40)) ≤ (hn) then hn else othV by_ tl ((0, p)) 0 5 (pg 40)), .int (ho), .ref mt, .int (nI tl), .int (fa), .int (bk_124), .int (ba_124), .int (nI sp_124), .int (nI he_124), .int (to_124), .int (va_124), .ref mc, .ref ml, .ref mn, .int (nI se), .ref mk, .ref mg, .ref mh, .ref mq, .int (tn)])), (mt, .inl (E.2.1 1, 160, .inl (by_))), (mp, .inl (E.2.1 1, 43, .inl (pg))), (mc, .inl (E.2.1 1, 9, .inl (cf))), (ml, .inl (E.2.1 1, 35, .inl (lf)))]) rfl ?_
            refine v_st (st' := [.int (othV by_ tl ((0, p)) 0 5 (pg 40)), .int (1), .int (pg 40), .int (40), .ref mp]) rfl ?_
            refine v_ishl (pc := 127) dX5_readMore_127 ?_
            refine v_ior (pc := 128) dX5_readMore_128 ?_
            refine v_iastN (pc := 129) (ws' := [(m0, .inr (5, [.ref ma, .int (nI nt), .int (nI pp), .int (th), .ref mp, .int (rn), .int (ro), .int (to), .int (wt), .int (if (othV by_ tl ((0, p)) 0 5 (pg 40)) ≤ (hn) then hn else othV by_ tl ((0, p)) 0 5 (pg 40)), .int (ho), .ref mt, .int (nI tl), .int (fa), .int (bk_124), .int (ba_124), .int (nI sp_124), .int (nI he_124), .int (to_124), .int (va_124), .ref mc, .ref ml, .ref mn, .int (nI se), .ref mk, .ref mg, .ref mh, .ref mq, .int (tn)])), (mt, .inl (E.2.1 1, 160, .inl (by_))), (mp, .inl (E.2.1 1, 43, .inl (upd (pg) (40) ((pg 40) ||| ((1 : Int32) <<< ((othV by_ tl ((0, p)) 0 5 (pg 40)) &&& 31)))))), (mc, .inl (E.2.1 1, 9, .inl (cf))), (ml, .inl (E.2.1 1, 35, .inl (lf)))]) 2 1 (40) dX5_readMore_129 rfl rfl rfl (by decide) (by decide) rfl ?_
            refine v_goto (pc := 130) 188 dX5_readMore_130 (by decide) ?_
            refine v_vret (pc := 188) dX5_readMore_188 rfl ⟨rfl, rfl⟩ ⟨(bk_124), (ba_124), (sp_124), (he_124), (to_124), (va_124), (wt), (if (othV by_ tl ((0, p)) 0 5 (pg 40)) ≤ (hn) then hn else othV by_ tl ((0, p)) 0 5 (pg 40)), (ho), (rn), (ro), (upd (pg) (40) ((pg 40) ||| ((1 : Int32) <<< ((othV by_ tl ((0, p)) 0 5 (pg 40)) &&& 31)))), (othR by_ tl (0, p) 0 5 (pg 40)), ?_, rfl, ?_, ?_, ?_⟩
            · skip
              rfl
            · skip
              exact hf124_0
            · skip
              subst c_104
              have hC : mlC by_ tl p 5 s = lnStop by_ tl p s.sp := rfl
              rw [hC]; rw [← h_pr.2.2.2.2.2.2.2.1]; exact lsp_eq
            · skip
              intro q
              subst c_104
              have hC : mlC by_ tl p 5 s = lnStop by_ tl p s.sp := rfl
              obtain ⟨-, -, y3, -, -, y6⟩ := othR_ok q
              exact PR_stop h_pr h_gs (by rw [y6]; exact nu_W y3) y6
        · skip
          refine v_aload_n (pc := 76) 0 dX5_readMore_76 rfl rfl ?_
          refine gf_791 (pc := 77) 0 dX5_readMore_77 rfl rfl ?_
          refine v_bipush (pc := 80) (v := 39) dX5_readMore_80 (by decide) ?_
          refine v_dup2 (pc := 82) dX5_readMore_82 rfl rfl ?_
          refine v_ialdN (pc := 83) 2 1 (39) dX5_readMore_83 rfl rfl rfl (by decide) (by decide) ?_
          refine v_iconst (pc := 84) (v := 1) dX5_readMore_84 (by decide) ?_
          refine v_aload_n (pc := 85) 0 dX5_readMore_85 rfl rfl ?_
          refine v_aload_n (pc := 86) 0 dX5_readMore_86 rfl rfl ?_
          refine gf_791 (pc := 87) 0 dX5_readMore_87 rfl rfl ?_
          refine v_bipush (pc := 90) (v := 39) dX5_readMore_90 (by decide) ?_
          refine v_ialdN (pc := 92) 2 1 (39) dX5_readMore_92 rfl rfl rfl (by decide) (by decide) ?_
          refine v_callV (pc := 93) (rest := [.int (1), .int (pg 39), .int (39), .ref mp]) [0, 1] 0 lk_924 (c_X5_oneHere l E m0 ma mp mt mc ml mn mk mg mh mq nt pp tl se th rn ro to wt hn ho fa bk ba tok val tn sq he by_ ((0, p)) (pg 39) h_tl h_b h_md) dX5_readMore_93 rfl rfl (Nat.le_of_ble_eq_true rfl) (by decide) rfl rfl rfl (by decide) rfl (by rintro _ _ ⟨_, _, _, _, _, _, _, rfl, _⟩; rfl) ?_
          rintro _ _ ⟨bk_93, ba_93, sp_93, he_93, to_93, va_93, rfl, rfl, hf93_0⟩
          refine v_w (ws' := [(m0, .inr (5, [.ref ma, .int (nI nt), .int (nI pp), .int (th), .ref mp, .int (rn), .int (ro), .int (to), .int (wt), .int (hn), .int (if (othV by_ tl ((0, p)) 0 3 (pg 39)) ≤ (ho) then ho else othV by_ tl ((0, p)) 0 3 (pg 39)), .ref mt, .int (nI tl), .int (fa), .int (bk_93), .int (ba_93), .int (nI sp_93), .int (nI he_93), .int (to_93), .int (va_93), .ref mc, .ref ml, .ref mn, .int (nI se), .ref mk, .ref mg, .ref mh, .ref mq, .int (tn)])), (mt, .inl (E.2.1 1, 160, .inl (by_))), (mp, .inl (E.2.1 1, 43, .inl (pg))), (mc, .inl (E.2.1 1, 9, .inl (cf))), (ml, .inl (E.2.1 1, 35, .inl (lf)))]) rfl ?_
          refine v_st (st' := [.int (othV by_ tl ((0, p)) 0 3 (pg 39)), .int (1), .int (pg 39), .int (39), .ref mp]) rfl ?_
          refine v_ishl (pc := 96) dX5_readMore_96 ?_
          refine v_ior (pc := 97) dX5_readMore_97 ?_
          refine v_iastN (pc := 98) (ws' := [(m0, .inr (5, [.ref ma, .int (nI nt), .int (nI pp), .int (th), .ref mp, .int (rn), .int (ro), .int (to), .int (wt), .int (hn), .int (if (othV by_ tl ((0, p)) 0 3 (pg 39)) ≤ (ho) then ho else othV by_ tl ((0, p)) 0 3 (pg 39)), .ref mt, .int (nI tl), .int (fa), .int (bk_93), .int (ba_93), .int (nI sp_93), .int (nI he_93), .int (to_93), .int (va_93), .ref mc, .ref ml, .ref mn, .int (nI se), .ref mk, .ref mg, .ref mh, .ref mq, .int (tn)])), (mt, .inl (E.2.1 1, 160, .inl (by_))), (mp, .inl (E.2.1 1, 43, .inl (upd (pg) (39) ((pg 39) ||| ((1 : Int32) <<< ((othV by_ tl ((0, p)) 0 3 (pg 39)) &&& 31)))))), (mc, .inl (E.2.1 1, 9, .inl (cf))), (ml, .inl (E.2.1 1, 35, .inl (lf)))]) 2 1 (39) dX5_readMore_98 rfl rfl rfl (by decide) (by decide) rfl ?_
          refine v_goto (pc := 99) 188 dX5_readMore_99 (by decide) ?_
          refine v_vret (pc := 188) dX5_readMore_188 rfl ⟨rfl, rfl⟩ ⟨(bk_93), (ba_93), (sp_93), (he_93), (to_93), (va_93), (wt), (hn), (if (othV by_ tl ((0, p)) 0 3 (pg 39)) ≤ (ho) then ho else othV by_ tl ((0, p)) 0 3 (pg 39)), (rn), (ro), (upd (pg) (39) ((pg 39) ||| ((1 : Int32) <<< ((othV by_ tl ((0, p)) 0 3 (pg 39)) &&& 31)))), (othR by_ tl (0, p) 0 3 (pg 39)), ?_, rfl, ?_, ?_, ?_⟩
          · skip
            rfl
          · skip
            exact hf93_0
          · skip
            subst c_73
            have hC : mlC by_ tl p 4 s = lnHome by_ tl p s.hm := rfl
            rw [hC]; rw [← h_pr.2.2.2.2.2.2.1]; exact lhm_eq
          · skip
            intro q
            subst c_73
            have hC : mlC by_ tl p 4 s = lnHome by_ tl p s.hm := rfl
            obtain ⟨-, -, y3, -, -, y6⟩ := othR_ok q
            exact PR_home h_pr h_gs (by rw [y6]; exact nu_W4 y3) y6
      · skip
        refine v_aload_n (pc := 22) 0 dX5_readMore_22 rfl rfl ?_
        refine v_aload_n (pc := 23) 0 dX5_readMore_23 rfl rfl ?_
        refine gf_795 (pc := 24) 0 dX5_readMore_24 rfl rfl ?_
        refine v_callV (pc := 27) (rest := []) [0, 1] 0 lk_932 (c_X5_noteHere l E m0 ma mp mt mc ml mn mk mg mh mq nt pp tl se th rn ro to wt hn ho fa bk ba tok val tn sq he by_ ((0, p)) wt h_tl h_b h_md) dX5_readMore_27 rfl rfl (Nat.le_of_ble_eq_true rfl) (by decide) rfl rfl rfl (by decide) rfl (by rintro _ _ ⟨_, _, _, _, _, _, _, rfl, _⟩; rfl) ?_
        rintro _ _ ⟨bk_27, ba_27, sp_27, he_27, to_27, va_27, rfl, rfl, hf27_0⟩
        refine v_w (ws' := [(m0, .inr (5, [.ref ma, .int (nI nt), .int (nI pp), .int (th), .ref mp, .int (rn), .int (ro), .int (to), .int (wt), .int (if (othV by_ tl ((0, p)) 0 5 wt) ≤ (hn) then hn else othV by_ tl ((0, p)) 0 5 wt), .int (ho), .ref mt, .int (nI tl), .int (fa), .int (bk_27), .int (ba_27), .int (nI sp_27), .int (nI he_27), .int (to_27), .int (va_27), .ref mc, .ref ml, .ref mn, .int (nI se), .ref mk, .ref mg, .ref mh, .ref mq, .int (tn)])), (mt, .inl (E.2.1 1, 160, .inl (by_))), (mp, .inl (E.2.1 1, 43, .inl (pg))), (mc, .inl (E.2.1 1, 9, .inl (cf))), (ml, .inl (E.2.1 1, 35, .inl (lf)))]) rfl ?_
        refine v_st (st' := [.int (othV by_ tl ((0, p)) 0 5 wt)]) rfl ?_
        refine v_istore_n (pc := 30) (lv' := [(2, .int (othV by_ tl ((0, p)) 0 5 wt)), (0, .ref m0), (1, .int (x))]) dX5_readMore_30 rfl (by decide) rfl ?_
        refine v_aload_n (pc := 31) 1 dX5_readMore_31 rfl rfl ?_
        refine v_dup (pc := 32) dX5_readMore_32 rfl ?_
        refine gf_795 (pc := 33) 0 dX5_readMore_33 rfl rfl ?_
        refine v_iconst (pc := 36) (v := 1) dX5_readMore_36 (by decide) ?_
        refine v_iload_n (pc := 37) 0 dX5_readMore_37 rfl rfl ?_
        refine v_ishl (pc := 38) dX5_readMore_38 ?_
        refine v_ior (pc := 39) dX5_readMore_39 ?_
        refine pf_795 (pc := 40) (ws' := [(m0, .inr (5, [.ref ma, .int (nI nt), .int (nI pp), .int (th), .ref mp, .int (rn), .int (ro), .int (to), .int ((wt) ||| ((1 : Int32) <<< ((othV by_ tl ((0, p)) 0 5 wt) &&& 31))), .int (if (othV by_ tl ((0, p)) 0 5 wt) ≤ (hn) then hn else othV by_ tl ((0, p)) 0 5 wt), .int (ho), .ref mt, .int (nI tl), .int (fa), .int (bk_27), .int (ba_27), .int (nI sp_27), .int (nI he_27), .int (to_27), .int (va_27), .ref mc, .ref ml, .ref mn, .int (nI se), .ref mk, .ref mg, .ref mh, .ref mq, .int (tn)])), (mt, .inl (E.2.1 1, 160, .inl (by_))), (mp, .inl (E.2.1 1, 43, .inl (pg))), (mc, .inl (E.2.1 1, 9, .inl (cf))), (ml, .inl (E.2.1 1, 35, .inl (lf)))]) 0 dX5_readMore_40 rfl rfl rfl (Nat.le_of_ble_eq_true rfl) rfl ?_
        refine v_aload_n (pc := 43) 1 dX5_readMore_43 rfl rfl ?_
        refine gf_791 (pc := 44) 0 dX5_readMore_44 rfl rfl ?_
        refine v_iload_n (pc := 47) 0 dX5_readMore_47 rfl rfl ?_
        refine v_aload_n (pc := 48) 1 dX5_readMore_48 rfl rfl ?_
        refine v_iconst (pc := 49) (v := 0) dX5_readMore_49 (by decide) ?_
        refine v_bipush (pc := 50) (v := 9) dX5_readMore_50 (by decide) ?_
        refine v_iconst (pc := 52) (v := 0) dX5_readMore_52 (by decide) ?_
        refine v_callV (pc := 53) (rest := [.int (othV by_ tl ((0, p)) 0 5 wt), .ref mp]) [0, 1] 0 lk_928 (c_X5_other l E m0 ma mp mt mc ml mn mk mg mh mq nt pp tl se th rn ro to ((wt) ||| ((1 : Int32) <<< ((othV by_ tl ((0, p)) 0 5 wt) &&& 31))) (if (othV by_ tl ((0, p)) 0 5 wt) ≤ (hn) then hn else othV by_ tl ((0, p)) 0 5 wt) ho fa bk_27 ba_27 to_27 va_27 tn sp_27 he_27 by_ (othR by_ tl (0, p) 0 5 wt) 0 9 0 h_tl h_b hf27_0) dX5_readMore_53 rfl rfl (Nat.le_of_ble_eq_true rfl) (by decide) rfl rfl rfl (by decide) rfl (by rintro _ _ ⟨_, _, _, _, _, _, _, rfl, _⟩; rfl) ?_
        rintro _ _ ⟨bk_53, ba_53, sp_53, he_53, to_53, va_53, rfl, rfl, hf53_0⟩
        refine v_w (ws' := [(m0, .inr (5, [.ref ma, .int (nI nt), .int (nI pp), .int (th), .ref mp, .int (rn), .int (ro), .int (to), .int (((wt) ||| ((1 : Int32) <<< ((othV by_ tl ((0, p)) 0 5 wt) &&& 31)))), .int ((if (othV by_ tl ((0, p)) 0 5 wt) ≤ (hn) then hn else othV by_ tl ((0, p)) 0 5 wt)), .int (ho), .ref mt, .int (nI tl), .int (fa), .int (bk_53), .int (ba_53), .int (nI sp_53), .int (nI he_53), .int (to_53), .int (va_53), .ref mc, .ref ml, .ref mn, .int (nI se), .ref mk, .ref mg, .ref mh, .ref mq, .int (tn)])), (mt, .inl (E.2.1 1, 160, .inl (by_))), (mp, .inl (E.2.1 1, 43, .inl (pg))), (mc, .inl (E.2.1 1, 9, .inl (cf))), (ml, .inl (E.2.1 1, 35, .inl (lf)))]) rfl ?_
        refine v_st (st' := [.int (othV by_ tl (othR by_ tl (0, p) 0 5 wt) 0 9 0), .int (othV by_ tl ((0, p)) 0 5 wt), .ref mp]) rfl ?_
        refine v_iload_n (pc := 56) 2 dX5_readMore_56 rfl rfl ?_
        refine v_iconst (pc := 57) (v := 3) dX5_readMore_57 (by decide) ?_
        suffices J_58 : V l E RX5 cX5_readMore 3 (Option.none : Option Jvm.ClassFile.FieldType) "readMore" ({ frames := 5, cells := 0, slots := 0, locals := 113 }) [(m0, .inr (5, [.ref ma, .int (nI nt), .int (nI pp), .int (th), .ref mp, .int (rn), .int (ro), .int (to), .int (wt), .int (hn), .int (ho), .ref mt, .int (nI tl), .int (fa), .int (bk), .int (ba), .int (nI sq), .int (nI he), .int (tok), .int (val), .ref mc, .ref ml, .ref mn, .int (nI se), .ref mk, .ref mg, .ref mh, .ref mq, .int (tn)])), (mt, .inl (E.2.1 1, 160, .inl (by_))), (mp, .inl (E.2.1 1, 43, .inl (pg))), (mc, .inl (E.2.1 1, 9, .inl (cf))), (ml, .inl (E.2.1 1, 35, .inl (lf)))] 0 0 (fun v wd => ∃ (bk_ : Int32) (ba_ : Int32) (sp_ : Nat) (he_ : Nat) (to_ : Int32) (va_ : Int32) (wt_ : Int32) (hn_ : Int32) (ho_ : Int32) (rn_ : Int32) (ro_ : Int32) (pg_ : Nat → Int32) (r_ : Int32 × Nat), v = none ∧ wd = [(m0, .inr (5, [.ref ma, .int (nI nt), .int (nI pp), .int (th), .ref mp, .int (rn_), .int (ro_), .int (to), .int (wt_), .int (hn_), .int (ho_), .ref mt, .int (nI tl), .int (fa), .int (bk_), .int (ba_), .int (nI sp_), .int (nI he_), .int (to_), .int (va_), .ref mc, .ref ml, .ref mn, .int (nI se), .ref mk, .ref mg, .ref mh, .ref mq, .int (tn)])), (mt, .inl (E.2.1 1, 160, .inl (by_))), (mp, .inl (E.2.1 1, 43, .inl (pg_))), (mc, .inl (E.2.1 1, 9, .inl (cf))), (ml, .inl (E.2.1 1, 35, .inl (lf)))] ∧ (Md by_ tl r_ bk_ ba_ sp_ he_ to_ va_) ∧ (mlC by_ tl p x s = andT by_ tl r_ (clK by_ tl r_.2)) ∧ (r_.1 = 0 → PRm (mlP by_ tl p x s) wt_ hn_ ho_ rn_ ro_ pg_)) 0 0 66 [(2, .int (othV by_ tl ((0, p)) 0 5 wt)), (0, .ref m0), (1, .int (x))] [.int (if ¬ (x) = (3) then 1 else -1), .int (othV by_ tl (othR by_ tl (0, p) 0 5 wt) 0 9 0), .int (othV by_ tl ((0, p)) 0 5 wt), .ref mp] [(m0, .inr (5, [.ref ma, .int (nI nt), .int (nI pp), .int (th), .ref mp, .int (rn), .int (ro), .int (to), .int (((wt) ||| ((1 : Int32) <<< ((othV by_ tl ((0, p)) 0 5 wt) &&& 31)))), .int ((if (othV by_ tl ((0, p)) 0 5 wt) ≤ (hn) then hn else othV by_ tl ((0, p)) 0 5 wt)), .int (ho), .ref mt, .int (nI tl), .int (fa), .int (bk_53), .int (ba_53), .int (nI sp_53), .int (nI he_53), .int (to_53), .int (va_53), .ref mc, .ref ml, .ref mn, .int (nI se), .ref mk, .ref mg, .ref mh, .ref mq, .int (tn)])), (mt, .inl (E.2.1 1, 160, .inl (by_))), (mp, .inl (E.2.1 1, 43, .inl (pg))), (mc, .inl (E.2.1 1, 9, .inl (cf))), (ml, .inl (E.2.1 1, 35, .inl (lf)))] by
          refine v_icmp_ne (pc := 58) 65 dX5_readMore_58 (by decide) (fun c_58 => ?_) (fun c_58 => ?_)
          · skip
            refine v_iconst (pc := 65) (v := 1) dX5_readMore_65 (by decide) ?_
            refine v_st ?_ J_58
            rw [if_pos (show ¬ (x) = (3) from c_58)]
          · skip
            refine v_iconst (pc := 61) (v := -1) dX5_readMore_61 (by decide) ?_
            refine v_goto (pc := 62) 66 dX5_readMore_62 (by decide) ?_
            refine v_st ?_ J_58
            rw [if_neg (show ¬ (¬ (x) = (3)) from (by first | exact c_58 | omega | exact fun q => q c_58))]
        refine v_imul (pc := 66) dX5_readMore_66 ?_
        refine v_iast (pc := 67) (ws' := [(m0, .inr (5, [.ref ma, .int (nI nt), .int (nI pp), .int (th), .ref mp, .int (rn), .int (ro), .int (to), .int (((wt) ||| ((1 : Int32) <<< ((othV by_ tl ((0, p)) 0 5 wt) &&& 31)))), .int ((if (othV by_ tl ((0, p)) 0 5 wt) ≤ (hn) then hn else othV by_ tl ((0, p)) 0 5 wt)), .int (ho), .ref mt, .int (nI tl), .int (fa), .int (bk_53), .int (ba_53), .int (nI sp_53), .int (nI he_53), .int (to_53), .int (va_53), .ref mc, .ref ml, .ref mn, .int (nI se), .ref mk, .ref mg, .ref mh, .ref mq, .int (tn)])), (mt, .inl (E.2.1 1, 160, .inl (by_))), (mp, .inl (E.2.1 1, 43, .inl (upd (pg) (Int32.toNatClampNeg (othV by_ tl ((0, p)) 0 5 wt)) ((othV by_ tl (othR by_ tl (0, p) 0 5 wt) 0 9 0) * (if ¬ (x) = (3) then 1 else -1))))), (mc, .inl (E.2.1 1, 9, .inl (cf))), (ml, .inl (E.2.1 1, 35, .inl (lf)))]) 2 1 dX5_readMore_67 rfl rfl (by obtain ⟨y, hy, e⟩ := (othV_in (b := by_) (n := tl) (r := (0, p)) (so := wt)); rw [e]; exact vp_in_nI (by omega) (by decide)) rfl ?_
        refine v_goto (pc := 68) 188 dX5_readMore_68 (by decide) ?_
        refine v_vret (pc := 188) dX5_readMore_188 rfl ⟨rfl, rfl⟩ ⟨(bk_53), (ba_53), (sp_53), (he_53), (to_53), (va_53), (((wt) ||| ((1 : Int32) <<< ((othV by_ tl ((0, p)) 0 5 wt) &&& 31)))), ((if (othV by_ tl ((0, p)) 0 5 wt) ≤ (hn) then hn else othV by_ tl ((0, p)) 0 5 wt)), (ho), (rn), (ro), (upd (pg) (Int32.toNatClampNeg (othV by_ tl ((0, p)) 0 5 wt)) ((othV by_ tl (othR by_ tl (0, p) 0 5 wt) 0 9 0) * (if ¬ (x) = (3) then 1 else -1))), (othR by_ tl (othR by_ tl (0, p) 0 5 wt) 0 9 0), ?_, rfl, ?_, ?_, ?_⟩
        · skip
          rfl
        · skip
          exact hf53_0
        · skip
          subst c_19
          have hC : mlC by_ tl p 3 s = lnWorth by_ tl p s.tpd := rfl
          rw [hC]; rw [← h_pr.1]; exact lw_eq
        · skip
          intro q
          subst c_19
          have hC : mlC by_ tl p 3 s = lnWorth by_ tl p s.tpd := rfl
          obtain ⟨z1, -, z3, -, z5, z6⟩ := othR_ok q
          obtain ⟨-, -, y3, -, y5, y6⟩ := othR_ok z1
          rw [y5] at z3
          have z7 := z6.trans (congrArg (fun z => tkV by_ tl z 0) (congrArg Prod.snd y5))
          have hv : Wd 6 (othV by_ tl (0, p) 0 5 wt) := othV_in
          exact PR_worth h_pr h_gs hv y6 z7
  · skip
    refine v_aload_n (pc := 5) 0 dX5_readMore_5 rfl rfl ?_
    refine v_callV (pc := 6) (rest := []) [0, 1, 2, 3, 4] 0 lk_920 (c_X5_readRule l E m0 ma mp mt mc ml mn mk mg mh mq nt pp s.rl tl se th rn ro to wt hn ho fa bk ba tok val tn sq he by_ p s.tN cf lf pg h_tl h_b h_md h_p h_pr.2.2.2.2.2.1 (h_rl c_2) h_pr.2.1 h_gs.2.1 h_cf h_lf) dX5_readMore_6 rfl rfl (Nat.le_of_ble_eq_true rfl) (by decide) rfl rfl rfl (by decide) rfl (by rintro _ _ ⟨_, _, _, _, _, _, _, _, _, _, _, rfl, _⟩; rfl) ?_
    rintro _ _ ⟨bk_6, ba_6, sp_6, he_6, to_6, va_6, hn_6, ho_6, pg_6, r_6, rfl, rfl, hf6_0, hf6_1, hf6_2, hf6_3⟩
    refine v_w (ws' := [(m0, .inr (5, [.ref ma, .int (nI nt), .int (nI pp), .int (th), .ref mp, .int (rn), .int (ro), .int (to), .int (wt), .int (hn_6), .int (ho_6), .ref mt, .int (nI tl), .int (fa), .int (bk_6), .int (ba_6), .int (nI sp_6), .int (nI he_6), .int (to_6), .int (va_6), .ref mc, .ref ml, .ref mn, .int (nI se), .ref mk, .ref mg, .ref mh, .ref mq, .int (tn)])), (mt, .inl (E.2.1 1, 160, .inl (by_))), (mp, .inl (E.2.1 1, 43, .inl (pg_6))), (mc, .inl (E.2.1 1, 9, .inl (cf))), (ml, .inl (E.2.1 1, 35, .inl (lf)))]) rfl ?_
    refine v_st (st' := []) rfl ?_
    refine v_goto (pc := 9) 188 dX5_readMore_9 (by decide) ?_
    refine v_vret (pc := 188) dX5_readMore_188 rfl ⟨rfl, rfl⟩ ⟨(bk_6), (ba_6), (sp_6), (he_6), (to_6), (va_6), (wt), (hn_6), (ho_6), (rn), (ro), (pg_6), (r_6), ?_, rfl, ?_, ?_, ?_⟩
    · skip
      rfl
    · skip
      exact hf6_0
    · skip
      subst c_2
      have hC : mlC by_ tl p 1 s = rcC by_ tl p s.tN := rfl
      rw [hC]; exact hf6_1
    · skip
      intro q
      subst c_2
      have hC : mlC by_ tl p 1 s = rcC by_ tl p s.tN := rfl
      have hvR : Wd 6 (tkV by_ tl p 0) := hf6_3 q
      obtain ⟨a1, a2, a3⟩ := hf6_2 q
      rw [a1, a2]; exact PR_rule h_pr h_gs (h_rl rfl) hvR a3
theorem c_X5_readLine (l : Launch) (E : VE) (m0 : Nat) (ma : Nat) (mp : Nat) (mt : Nat) (mc : Nat) (ml : Nat) (mn : Nat) (mk : Nat) (mg : Nat) (mh : Nat) (mq : Nat) (nt : Nat) (pp : Nat) (tl : Nat) (se : Nat) (th : Int32) (rn : Int32) (ro : Int32) (to : Int32) (wt : Int32) (hn : Int32) (ho : Int32) (fa : Int32) (bk : Int32) (ba : Int32) (tok : Int32) (val : Int32) (tn : Int32) (sq : Nat) (he : Nat) (by_ : Nat → Int32) (s : PS) (cf : Nat → Int32) (lf : Nat → Int32) (pg : Nat → Int32) (h_tl : tl ≤ 160) (h_b : ∀ j, ¬ by_ j = -4) (h_bk : bk = 0) (h_sq : sq ≤ tl) (h_he : he ≤ sq) (h_to : to = s.th) (h_pr : PRm s wt hn ho rn ro pg) (h_gs : GS s) (h_cf : ∀ k, k < 9 → cf k = nI (cutT.getD k 0)) (h_lf : ∀ k, k < 35 → lf k = letT.getD k 0) : Ct l E yX5_readLine cX5_readLine 2 (Option.none : Option Jvm.ClassFile.FieldType) 6 135 0 0 [.ref m0] [(m0, .inr (5, [.ref ma, .int (nI nt), .int (nI pp), .int (th), .ref mp, .int (rn), .int (ro), .int (to), .int (wt), .int (hn), .int (ho), .ref mt, .int (nI tl), .int (fa), .int (bk), .int (ba), .int (nI sq), .int (nI he), .int (tok), .int (val), .ref mc, .ref ml, .ref mn, .int (nI se), .ref mk, .ref mg, .ref mh, .ref mq, .int (tn)])), (mt, .inl (E.2.1 1, 160, .inl (by_))), (mp, .inl (E.2.1 1, 43, .inl (pg))), (mc, .inl (E.2.1 1, 9, .inl (cf))), (ml, .inl (E.2.1 1, 35, .inl (lf)))] (fun v wd => ∃ (bk_ : Int32) (ba_ : Int32) (sp_ : Nat) (he_ : Nat) (to_ : Int32) (va_ : Int32) (wt_ : Int32) (hn_ : Int32) (ho_ : Int32) (rn_ : Int32) (ro_ : Int32) (pg_ : Nat → Int32) (tc_ : Int32), v = none ∧ wd = [(m0, .inr (5, [.ref ma, .int (nI nt), .int (nI pp), .int (th), .ref mp, .int (rn_), .int (ro_), .int (tc_), .int (wt_), .int (hn_), .int (ho_), .ref mt, .int (nI tl), .int (fa), .int (bk_), .int (ba_), .int (nI sp_), .int (nI he_), .int (to_), .int (va_), .ref mc, .ref ml, .ref mn, .int (nI se), .ref mk, .ref mg, .ref mh, .ref mq, .int (tn)])), (mt, .inl (E.2.1 1, 160, .inl (by_))), (mp, .inl (E.2.1 1, 43, .inl (pg_))), (mc, .inl (E.2.1 1, 9, .inl (cf))), (ml, .inl (E.2.1 1, 35, .inl (lf)))] ∧ (Md by_ tl (lnC by_ tl tok he sq s) bk_ ba_ sp_ he_ to_ va_) ∧ ((lnC by_ tl tok he sq s).1 = 0 → tc_ = (lnP by_ tl tok he sq s).th ∧ PRm (lnP by_ tl tok he sq s) wt_ hn_ ho_ rn_ ro_ pg_)) := by
  refine Ct.of (own := RX5) (nm := "readLine") (lv := [(0, .ref m0)]) (by decide) rfl rfl (Nat.le_of_ble_eq_true rfl) rfl ?_
  refine v_aload_n (pc := 0) 0 dX5_readLine_0 rfl rfl ?_
  refine v_callV (pc := 1) (rest := []) [0, 1, 3, 4] 0 lk_911 (c_X5_nameHere l E m0 ma mp mt mc ml mn mk mg mh mq nt pp tl se th rn ro to wt hn ho fa bk ba tok val tn sq he by_ cf lf h_tl h_sq h_he h_cf h_lf) dX5_readLine_1 rfl rfl (Nat.le_of_ble_eq_true rfl) (by decide) rfl rfl rfl (by decide) rfl (Rt.len rfl) (Rt.go ?_)
  refine v_w (ws' := [(m0, .inr (5, [.ref ma, .int (nI nt), .int (nI pp), .int (th), .ref mp, .int (rn), .int (ro), .int (to), .int (wt), .int (hn), .int (ho), .ref mt, .int (nI tl), .int (fa), .int (bk), .int (ba), .int (nI sq), .int (nI he), .int (tok), .int (val), .ref mc, .ref ml, .ref mn, .int (nI se), .ref mk, .ref mg, .ref mh, .ref mq, .int (tn)])), (mt, .inl (E.2.1 1, 160, .inl (by_))), (mp, .inl (E.2.1 1, 43, .inl (pg))), (mc, .inl (E.2.1 1, 9, .inl (cf))), (ml, .inl (E.2.1 1, 35, .inl (lf)))]) rfl ?_
  refine v_st (st' := [.int (nmI tok by_ he sq)]) rfl ?_
  refine v_istore_n (pc := 4) (lv' := [(1, .int (nmI tok by_ he sq)), (0, .ref m0)]) dX5_readLine_4 rfl (by decide) rfl ?_
  refine v_iload_n (pc := 5) 0 dX5_readLine_5 rfl rfl ?_
  refine v_i2l (pc := 6) dX5_readLine_6 ?_
  refine v_lconst (pc := 7) (v := 0) dX5_readLine_7 (by decide) ?_
  refine v_ldc2 (pc := 8) dX5_readLine_8 tb_915 ?_
  refine v_callS (pc := 11) (rest := []) [] lk_880 (c_X5_in l E (Int32.toInt64 (nmI tok by_ he sq)) 0 6) dX5_readLine_11 rfl rfl (Nat.le_of_ble_eq_true rfl) (by decide) (by decide) rfl (Rt.len rfl) (Rt.go ?_)
  refine v_w (ws' := [(m0, .inr (5, [.ref ma, .int (nI nt), .int (nI pp), .int (th), .ref mp, .int (rn), .int (ro), .int (to), .int (wt), .int (hn), .int (ho), .ref mt, .int (nI tl), .int (fa), .int (bk), .int (ba), .int (nI sq), .int (nI he), .int (tok), .int (val), .ref mc, .ref ml, .ref mn, .int (nI se), .ref mk, .ref mg, .ref mh, .ref mq, .int (tn)])), (mt, .inl (E.2.1 1, 160, .inl (by_))), (mp, .inl (E.2.1 1, 43, .inl (pg))), (mc, .inl (E.2.1 1, 9, .inl (cf))), (ml, .inl (E.2.1 1, 35, .inl (lf)))]) rfl ?_
  refine v_st (st' := [.int (if ¬ (Int32.toInt64 (nmI tok by_ he sq)) < 0 ∧ ¬ 6 < (Int32.toInt64 (nmI tok by_ he sq)) then 1 else 0)]) rfl ?_
  refine v_ifB_ne (pc := 14) 23 dX5_readLine_14 (by decide) (fun c_14 => ?_) (fun c_14 => ?_)
  · skip
    refine v_iload_n (pc := 23) 0 dX5_readLine_23 rfl rfl ?_
    refine v_iconst (pc := 24) (v := 1) dX5_readLine_24 (by decide) ?_
    refine v_icmp_ne (pc := 25) 45 dX5_readLine_25 (by decide) (fun c_25 => ?_) (fun c_25 => ?_)
    · skip
      refine v_iload_n (pc := 45) 0 dX5_readLine_45 rfl rfl ?_
      refine v_if_ne (pc := 46) 61 dX5_readLine_46 (by decide) (fun c_46 => ?_) (fun c_46 => ?_)
      · skip
        refine v_aload_n (pc := 61) 1 dX5_readLine_61 rfl rfl ?_
        refine v_dup (pc := 62) dX5_readLine_62 rfl ?_
        refine gf_794 (pc := 63) 0 dX5_readLine_63 rfl rfl ?_
        refine v_iload_n (pc := 66) 0 dX5_readLine_66 rfl rfl ?_
        suffices J_67 : V l E RX5 cX5_readLine 2 (Option.none : Option Jvm.ClassFile.FieldType) "readLine" ({ frames := 6, cells := 0, slots := 0, locals := 135 }) [(m0, .inr (5, [.ref ma, .int (nI nt), .int (nI pp), .int (th), .ref mp, .int (rn), .int (ro), .int (to), .int (wt), .int (hn), .int (ho), .ref mt, .int (nI tl), .int (fa), .int (bk), .int (ba), .int (nI sq), .int (nI he), .int (tok), .int (val), .ref mc, .ref ml, .ref mn, .int (nI se), .ref mk, .ref mg, .ref mh, .ref mq, .int (tn)])), (mt, .inl (E.2.1 1, 160, .inl (by_))), (mp, .inl (E.2.1 1, 43, .inl (pg))), (mc, .inl (E.2.1 1, 9, .inl (cf))), (ml, .inl (E.2.1 1, 35, .inl (lf)))] 0 0 (fun v wd => ∃ (bk_ : Int32) (ba_ : Int32) (sp_ : Nat) (he_ : Nat) (to_ : Int32) (va_ : Int32) (wt_ : Int32) (hn_ : Int32) (ho_ : Int32) (rn_ : Int32) (ro_ : Int32) (pg_ : Nat → Int32) (tc_ : Int32), v = none ∧ wd = [(m0, .inr (5, [.ref ma, .int (nI nt), .int (nI pp), .int (th), .ref mp, .int (rn_), .int (ro_), .int (tc_), .int (wt_), .int (hn_), .int (ho_), .ref mt, .int (nI tl), .int (fa), .int (bk_), .int (ba_), .int (nI sp_), .int (nI he_), .int (to_), .int (va_), .ref mc, .ref ml, .ref mn, .int (nI se), .ref mk, .ref mg, .ref mh, .ref mq, .int (tn)])), (mt, .inl (E.2.1 1, 160, .inl (by_))), (mp, .inl (E.2.1 1, 43, .inl (pg_))), (mc, .inl (E.2.1 1, 9, .inl (cf))), (ml, .inl (E.2.1 1, 35, .inl (lf)))] ∧ (Md by_ tl (lnC by_ tl tok he sq s) bk_ ba_ sp_ he_ to_ va_) ∧ ((lnC by_ tl tok he sq s).1 = 0 → tc_ = (lnP by_ tl tok he sq s).th ∧ PRm (lnP by_ tl tok he sq s) wt_ hn_ ho_ rn_ ro_ pg_)) 0 0 75 [(1, .int (nmI tok by_ he sq)), (0, .ref m0)] [.int (if (nmI tok by_ he sq) = 0 then 1 else 0), .int (to), .ref m0] [(m0, .inr (5, [.ref ma, .int (nI nt), .int (nI pp), .int (th), .ref mp, .int (rn), .int (ro), .int (to), .int (wt), .int (hn), .int (ho), .ref mt, .int (nI tl), .int (fa), .int (bk), .int (ba), .int (nI sq), .int (nI he), .int (tok), .int (val), .ref mc, .ref ml, .ref mn, .int (nI se), .ref mk, .ref mg, .ref mh, .ref mq, .int (tn)])), (mt, .inl (E.2.1 1, 160, .inl (by_))), (mp, .inl (E.2.1 1, 43, .inl (pg))), (mc, .inl (E.2.1 1, 9, .inl (cf))), (ml, .inl (E.2.1 1, 35, .inl (lf)))] by
          refine v_if_ne (pc := 67) 74 dX5_readLine_67 (by decide) (fun c_67 => ?_) (fun c_67 => ?_)
          · skip
            refine v_iconst (pc := 74) (v := 0) dX5_readLine_74 (by decide) ?_
            refine v_st ?_ J_67
            rw [if_neg (show ¬ ((nmI tok by_ he sq) = 0) from c_67)]
          · skip
            refine v_iconst (pc := 70) (v := 1) dX5_readLine_70 (by decide) ?_
            refine v_goto (pc := 71) 75 dX5_readLine_71 (by decide) ?_
            refine v_st ?_ J_67
            rw [if_pos (show (nmI tok by_ he sq) = 0 from c_67)]
        refine v_iadd (pc := 75) dX5_readLine_75 ?_
        refine pf_794 (pc := 76) (ws' := [(m0, .inr (5, [.ref ma, .int (nI nt), .int (nI pp), .int (th), .ref mp, .int (rn), .int (ro), .int ((to) + (if (nmI tok by_ he sq) = 0 then 1 else 0)), .int (wt), .int (hn), .int (ho), .ref mt, .int (nI tl), .int (fa), .int (bk), .int (ba), .int (nI sq), .int (nI he), .int (tok), .int (val), .ref mc, .ref ml, .ref mn, .int (nI se), .ref mk, .ref mg, .ref mh, .ref mq, .int (tn)])), (mt, .inl (E.2.1 1, 160, .inl (by_))), (mp, .inl (E.2.1 1, 43, .inl (pg))), (mc, .inl (E.2.1 1, 9, .inl (cf))), (ml, .inl (E.2.1 1, 35, .inl (lf)))]) 0 dX5_readLine_76 rfl rfl rfl (Nat.le_of_ble_eq_true rfl) rfl ?_
        refine v_aload_n (pc := 79) 1 dX5_readLine_79 rfl rfl ?_
        refine v_callV (pc := 80) (rest := []) [0, 1] 0 lk_891 (c_X5_step l E m0 ma mp mt mc ml mn mk mg mh mq nt pp tl se th rn ro ((to) + (if (nmI tok by_ he sq) = 0 then 1 else 0)) wt hn ho fa bk ba tok val tn he by_ sq h_tl h_sq (by first | exact h_bk | decide) h_b) dX5_readLine_80 rfl rfl (Nat.le_of_ble_eq_true rfl) (by decide) rfl rfl rfl (by decide) rfl (by rintro _ _ ⟨_, _, _, _, _, _, _, rfl, _⟩; rfl) ?_
        rintro _ _ ⟨bk_80, ba_80, sp_80, he_80, to_80, va_80, rfl, rfl, hf80_0⟩
        refine v_w (ws' := [(m0, .inr (5, [.ref ma, .int (nI nt), .int (nI pp), .int (th), .ref mp, .int (rn), .int (ro), .int (((to) + (if (nmI tok by_ he sq) = 0 then 1 else 0))), .int (wt), .int (hn), .int (ho), .ref mt, .int (nI tl), .int (fa), .int (bk_80), .int (ba_80), .int (nI sp_80), .int (nI he_80), .int (to_80), .int (va_80), .ref mc, .ref ml, .ref mn, .int (nI se), .ref mk, .ref mg, .ref mh, .ref mq, .int (tn)])), (mt, .inl (E.2.1 1, 160, .inl (by_))), (mp, .inl (E.2.1 1, 43, .inl (pg))), (mc, .inl (E.2.1 1, 9, .inl (cf))), (ml, .inl (E.2.1 1, 35, .inl (lf)))]) rfl ?_
        refine v_st (st' := []) rfl ?_
        refine v_aload_n (pc := 83) 1 dX5_readLine_83 rfl rfl ?_
        refine gf_801 (pc := 84) 0 dX5_readLine_84 rfl rfl ?_
        refine v_if_le (pc := 87) 91 dX5_readLine_87 (by decide) (fun c_87 => ?_) (fun c_87 => ?_)
        · skip
          refine v_aload_n (pc := 91) 1 dX5_readLine_91 rfl rfl ?_
          refine v_iload_n (pc := 92) 0 dX5_readLine_92 rfl rfl ?_
          refine v_callV (pc := 93) (rest := []) [0, 1, 2, 3, 4] 0 lk_916 (c_X5_readMore l E m0 ma mp mt mc ml mn mk mg mh mq nt pp 0 tl se th rn ro ((to) + (if (nmI tok by_ he sq) = 0 then 1 else 0)) wt hn ho fa bk_80 ba_80 to_80 va_80 tn sp_80 he_80 by_ sq (nmI tok by_ he sq) s cf lf pg h_tl h_b hf80_0 h_sq (x_in c_14) (fun q => absurd q c_25) h_pr h_gs h_cf h_lf) dX5_readLine_93 rfl rfl (Nat.le_of_ble_eq_true rfl) (by decide) rfl rfl rfl (by decide) rfl (by rintro _ _ ⟨_, _, _, _, _, _, _, _, _, _, _, _, _, _, rfl, _⟩; rfl) ?_
          rintro _ _ ⟨bk_93, ba_93, sp_93, he_93, to_93, va_93, wt_93, hn_93, ho_93, rn_93, ro_93, pg_93, r_93, rfl, rfl, hf93_0, hf93_1, hf93_2⟩
          refine v_w (ws' := [(m0, .inr (5, [.ref ma, .int (nI nt), .int (nI pp), .int (th), .ref mp, .int (rn_93), .int (ro_93), .int (((to) + (if (nmI tok by_ he sq) = 0 then 1 else 0))), .int (wt_93), .int (hn_93), .int (ho_93), .ref mt, .int (nI tl), .int (fa), .int (bk_93), .int (ba_93), .int (nI sp_93), .int (nI he_93), .int (to_93), .int (va_93), .ref mc, .ref ml, .ref mn, .int (nI se), .ref mk, .ref mg, .ref mh, .ref mq, .int (tn)])), (mt, .inl (E.2.1 1, 160, .inl (by_))), (mp, .inl (E.2.1 1, 43, .inl (pg_93))), (mc, .inl (E.2.1 1, 9, .inl (cf))), (ml, .inl (E.2.1 1, 35, .inl (lf)))]) rfl ?_
          refine v_st (st' := []) rfl ?_
          refine v_aload_n (pc := 96) 1 dX5_readLine_96 rfl rfl ?_
          refine gf_801 (pc := 97) 0 dX5_readLine_97 rfl rfl ?_
          refine v_if_ne (pc := 100) 116 dX5_readLine_100 (by decide) (fun c_100 => ?_) (fun c_100 => ?_)
          · skip
            refine v_aload_n (pc := 116) 1 dX5_readLine_116 rfl rfl ?_
            refine v_callV (pc := 117) (rest := []) [0] 0 lk_891 (cB_X5_step l E m0 ma mp mt mc ml mn mk mg mh mq nt pp tl se th rn_93 ro_93 ((to) + (if (nmI tok by_ he sq) = 0 then 1 else 0)) wt_93 hn_93 ho_93 fa bk_93 ba_93 (nI sp_93) (nI he_93) to_93 va_93 tn (by first | exact c_100 | exact hf93_0.pos.resolve_left c_100 | decide)) dX5_readLine_117 rfl rfl (Nat.le_of_ble_eq_true rfl) (by decide) rfl rfl rfl (by decide) rfl (Rt.len rfl) (Rt.go ?_)
            refine v_w (ws' := [(m0, .inr (5, [.ref ma, .int (nI nt), .int (nI pp), .int (th), .ref mp, .int (rn_93), .int (ro_93), .int (((to) + (if (nmI tok by_ he sq) = 0 then 1 else 0))), .int (wt_93), .int (hn_93), .int (ho_93), .ref mt, .int (nI tl), .int (fa), .int (bk_93), .int (ba_93), .int ((nI sp_93)), .int ((nI he_93)), .int (to_93), .int (va_93), .ref mc, .ref ml, .ref mn, .int (nI se), .ref mk, .ref mg, .ref mh, .ref mq, .int (tn)])), (mt, .inl (E.2.1 1, 160, .inl (by_))), (mp, .inl (E.2.1 1, 43, .inl (pg_93))), (mc, .inl (E.2.1 1, 9, .inl (cf))), (ml, .inl (E.2.1 1, 35, .inl (lf)))]) rfl ?_
            refine v_st (st' := []) rfl ?_
            refine v_vret (pc := 120) dX5_readLine_120 rfl ⟨rfl, rfl⟩ ⟨(bk_93), (ba_93), (sp_93), (he_93), (to_93), (va_93), (wt_93), (hn_93), (ho_93), (rn_93), (ro_93), (pg_93), (((to) + (if (nmI tok by_ he sq) = 0 then 1 else 0))), ?_, rfl, ?_, ?_⟩
            · skip
              rfl
            · skip
              have hX := x_in c_14
              have hLC : lnC by_ tl tok he sq s = mlC by_ tl sq (nmI tok by_ he sq) s := lnC_X.1.trans (lnX_ml hX (fun q => absurd q c_46) (fun q => absurd q c_25))
              have hA : lnC by_ tl tok he sq s = andT by_ tl r_93 (clK by_ tl r_93.2) := hLC.trans hf93_1
              rw [hA]; exact (hf93_0.stay _ c_100).1
            · skip
              have hX := x_in c_14
              have hLC : lnC by_ tl tok he sq s = mlC by_ tl sq (nmI tok by_ he sq) s := lnC_X.1.trans (lnX_ml hX (fun q => absurd q c_46) (fun q => absurd q c_25))
              have hA : lnC by_ tl tok he sq s = andT by_ tl r_93 (clK by_ tl r_93.2) := hLC.trans hf93_1
              intro q; rw [hA] at q; exact absurd q (hf93_0.stay _ c_100).2
          · skip
            refine v_aload_n (pc := 103) 1 dX5_readLine_103 rfl rfl ?_
            refine gf_805 (pc := 104) 0 dX5_readLine_104 rfl rfl ?_
            refine v_iconst (pc := 107) (v := 3) dX5_readLine_107 (by decide) ?_
            refine v_icmp_eq (pc := 108) 116 dX5_readLine_108 (by decide) (fun c_108 => ?_) (fun c_108 => ?_)
            · skip
              refine v_aload_n (pc := 116) 1 dX5_readLine_116 rfl rfl ?_
              refine v_callV (pc := 117) (rest := []) [0, 1] 0 lk_891 (c_X5_step l E m0 ma mp mt mc ml mn mk mg mh mq nt pp tl se th rn_93 ro_93 ((to) + (if (nmI tok by_ he sq) = 0 then 1 else 0)) wt_93 hn_93 ho_93 fa bk_93 ba_93 to_93 va_93 tn he_93 by_ sp_93 h_tl hf93_0.1 (by first | exact c_100 | exact hf93_0.pos.resolve_left c_100 | decide) h_b) dX5_readLine_117 rfl rfl (Nat.le_of_ble_eq_true rfl) (by decide) rfl rfl rfl (by decide) rfl (by rintro _ _ ⟨_, _, _, _, _, _, _, rfl, _⟩; rfl) ?_
              rintro _ _ ⟨bk_117, ba_117, sp_117, he_117, to_117, va_117, rfl, rfl, hf117_0⟩
              refine v_w (ws' := [(m0, .inr (5, [.ref ma, .int (nI nt), .int (nI pp), .int (th), .ref mp, .int (rn_93), .int (ro_93), .int (((to) + (if (nmI tok by_ he sq) = 0 then 1 else 0))), .int (wt_93), .int (hn_93), .int (ho_93), .ref mt, .int (nI tl), .int (fa), .int (bk_117), .int (ba_117), .int (nI sp_117), .int (nI he_117), .int (to_117), .int (va_117), .ref mc, .ref ml, .ref mn, .int (nI se), .ref mk, .ref mg, .ref mh, .ref mq, .int (tn)])), (mt, .inl (E.2.1 1, 160, .inl (by_))), (mp, .inl (E.2.1 1, 43, .inl (pg_93))), (mc, .inl (E.2.1 1, 9, .inl (cf))), (ml, .inl (E.2.1 1, 35, .inl (lf)))]) rfl ?_
              refine v_st (st' := []) rfl ?_
              refine v_vret (pc := 120) dX5_readLine_120 rfl ⟨rfl, rfl⟩ ⟨(bk_117), (ba_117), (sp_117), (he_117), (to_117), (va_117), (wt_93), (hn_93), (ho_93), (rn_93), (ro_93), (pg_93), (((to) + (if (nmI tok by_ he sq) = 0 then 1 else 0))), ?_, rfl, ?_, ?_⟩
              · skip
                rfl
              · skip
                have hX := x_in c_14
                have hLC : lnC by_ tl tok he sq s = mlC by_ tl sq (nmI tok by_ he sq) s := lnC_X.1.trans (lnX_ml hX (fun q => absurd q c_46) (fun q => absurd q c_25))
                have hA : lnC by_ tl tok he sq s = andT by_ tl r_93 (clK by_ tl r_93.2) := hLC.trans hf93_1
                obtain ⟨h1, h2, h3, h4, h5, h6, h7⟩ := hf93_0.at c_100
                have hL : lnC by_ tl tok he sq s = (0, tkN by_ tl r_93.2) := by rw [hA, andT_ok h1 h2]; unfold clK; rw [if_pos (by rw [← h6]; exact c_108)]
                rw [hL, ← h4]; exact hf117_0
              · skip
                have hX := x_in c_14
                have hLC : lnC by_ tl tok he sq s = mlC by_ tl sq (nmI tok by_ he sq) s := lnC_X.1.trans (lnX_ml hX (fun q => absurd q c_46) (fun q => absurd q c_25))
                have hA : lnC by_ tl tok he sq s = andT by_ tl r_93 (clK by_ tl r_93.2) := hLC.trans hf93_1
                obtain ⟨h1, h2, h3, h4, h5, h6, h7⟩ := hf93_0.at c_100
                have hL : lnC by_ tl tok he sq s = (0, tkN by_ tl r_93.2) := by rw [hA, andT_ok h1 h2]; unfold clK; rw [if_pos (by rw [← h6]; exact c_108)]
                intro _; rw [lnC_X.2]; exact ⟨by rw [h_to]; exact mlP_th hX (fun q => absurd q c_46), hf93_2 h1⟩
            · skip
              refine v_aload_n (pc := 111) 1 dX5_readLine_111 rfl rfl ?_
              refine v_iconst (pc := 112) (v := 2) dX5_readLine_112 (by decide) ?_
              refine v_callV (pc := 113) (rest := []) [0] 0 lk_903 (c_X5_fails l E m0 ma mp mt mc ml mn mk mg mh mq nt pp tl se th rn_93 ro_93 ((to) + (if (nmI tok by_ he sq) = 0 then 1 else 0)) wt_93 hn_93 ho_93 fa bk_93 ba_93 (nI sp_93) (nI he_93) to_93 va_93 tn 2) dX5_readLine_113 rfl rfl (Nat.le_of_ble_eq_true rfl) (by decide) rfl rfl rfl (by decide) rfl (Rt.len rfl) (Rt.go ?_)
              refine v_w (ws' := [(m0, .inr (5, [.ref ma, .int (nI nt), .int (nI pp), .int (th), .ref mp, .int (rn_93), .int (ro_93), .int (((to) + (if (nmI tok by_ he sq) = 0 then 1 else 0))), .int (wt_93), .int (hn_93), .int (ho_93), .ref mt, .int (nI tl), .int (fa), .int (if bk_93 = 0 then 2 else bk_93), .int (if bk_93 = 0 then (nI he_93) else ba_93), .int ((nI sp_93)), .int ((nI he_93)), .int (to_93), .int (va_93), .ref mc, .ref ml, .ref mn, .int (nI se), .ref mk, .ref mg, .ref mh, .ref mq, .int (tn)])), (mt, .inl (E.2.1 1, 160, .inl (by_))), (mp, .inl (E.2.1 1, 43, .inl (pg_93))), (mc, .inl (E.2.1 1, 9, .inl (cf))), (ml, .inl (E.2.1 1, 35, .inl (lf)))]) rfl ?_
              refine v_st (st' := []) rfl ?_
              refine v_w (ws' := [(m0, .inr (5, [.ref ma, .int (nI nt), .int (nI pp), .int (th), .ref mp, .int (rn_93), .int (ro_93), .int (((to) + (if (nmI tok by_ he sq) = 0 then 1 else 0))), .int (wt_93), .int (hn_93), .int (ho_93), .ref mt, .int (nI tl), .int (fa), .int (2), .int (nI he_93), .int ((nI sp_93)), .int ((nI he_93)), .int (to_93), .int (va_93), .ref mc, .ref ml, .ref mn, .int (nI se), .ref mk, .ref mg, .ref mh, .ref mq, .int (tn)])), (mt, .inl (E.2.1 1, 160, .inl (by_))), (mp, .inl (E.2.1 1, 43, .inl (pg_93))), (mc, .inl (E.2.1 1, 9, .inl (cf))), (ml, .inl (E.2.1 1, 35, .inl (lf)))]) (by rw [if_pos c_100, if_pos c_100]) ?_
              refine v_aload_n (pc := 116) 1 dX5_readLine_116 rfl rfl ?_
              refine v_callV (pc := 117) (rest := []) [0] 0 lk_891 (cB_X5_step l E m0 ma mp mt mc ml mn mk mg mh mq nt pp tl se th rn_93 ro_93 ((to) + (if (nmI tok by_ he sq) = 0 then 1 else 0)) wt_93 hn_93 ho_93 fa 2 (nI he_93) (nI sp_93) (nI he_93) to_93 va_93 tn (by first | exact c_100 | exact hf93_0.pos.resolve_left c_100 | decide)) dX5_readLine_117 rfl rfl (Nat.le_of_ble_eq_true rfl) (by decide) rfl rfl rfl (by decide) rfl (Rt.len rfl) (Rt.go ?_)
              refine v_w (ws' := [(m0, .inr (5, [.ref ma, .int (nI nt), .int (nI pp), .int (th), .ref mp, .int (rn_93), .int (ro_93), .int (((to) + (if (nmI tok by_ he sq) = 0 then 1 else 0))), .int (wt_93), .int (hn_93), .int (ho_93), .ref mt, .int (nI tl), .int (fa), .int (2), .int ((nI he_93)), .int ((nI sp_93)), .int ((nI he_93)), .int (to_93), .int (va_93), .ref mc, .ref ml, .ref mn, .int (nI se), .ref mk, .ref mg, .ref mh, .ref mq, .int (tn)])), (mt, .inl (E.2.1 1, 160, .inl (by_))), (mp, .inl (E.2.1 1, 43, .inl (pg_93))), (mc, .inl (E.2.1 1, 9, .inl (cf))), (ml, .inl (E.2.1 1, 35, .inl (lf)))]) rfl ?_
              refine v_st (st' := []) rfl ?_
              refine v_vret (pc := 120) dX5_readLine_120 rfl ⟨rfl, rfl⟩ ⟨(2), ((nI he_93)), (sp_93), (he_93), (to_93), (va_93), (wt_93), (hn_93), (ho_93), (rn_93), (ro_93), (pg_93), (((to) + (if (nmI tok by_ he sq) = 0 then 1 else 0))), ?_, rfl, ?_, ?_⟩
              · skip
                rfl
              · skip
                have hX := x_in c_14
                have hLC : lnC by_ tl tok he sq s = mlC by_ tl sq (nmI tok by_ he sq) s := lnC_X.1.trans (lnX_ml hX (fun q => absurd q c_46) (fun q => absurd q c_25))
                have hA : lnC by_ tl tok he sq s = andT by_ tl r_93 (clK by_ tl r_93.2) := hLC.trans hf93_1
                obtain ⟨h1, h2, h3, h4, h5, h6, h7⟩ := hf93_0.at c_100
                have hL : lnC by_ tl tok he sq s = (2, tkS by_ tl r_93.2) := by rw [hA, andT_ok h1 h2]; unfold clK; rw [if_neg (by rw [← h6]; exact c_108)]
                rw [hL]; exact Md.bad hf93_0.1 hf93_0.2.1 rfl (by rw [h5]) (by decide)
              · skip
                have hX := x_in c_14
                have hLC : lnC by_ tl tok he sq s = mlC by_ tl sq (nmI tok by_ he sq) s := lnC_X.1.trans (lnX_ml hX (fun q => absurd q c_46) (fun q => absurd q c_25))
                have hA : lnC by_ tl tok he sq s = andT by_ tl r_93 (clK by_ tl r_93.2) := hLC.trans hf93_1
                obtain ⟨h1, h2, h3, h4, h5, h6, h7⟩ := hf93_0.at c_100
                have hL : lnC by_ tl tok he sq s = (2, tkS by_ tl r_93.2) := by rw [hA, andT_ok h1 h2]; unfold clK; rw [if_neg (by rw [← h6]; exact c_108)]
                intro q; rw [hL] at q; exact absurd q (show ¬ (2 : Int32) = 0 by decide)
        · skip
          refine v_vret (pc := 90) dX5_readLine_90 rfl ⟨rfl, rfl⟩ ⟨(bk_80), (ba_80), (sp_80), (he_80), (to_80), (va_80), (wt), (hn), (ho), (rn), (ro), (pg), (((to) + (if (nmI tok by_ he sq) = 0 then 1 else 0))), ?_, rfl, ?_, ?_⟩
          · skip
            rfl
          · skip
            have hX := x_in c_14
            have hLC : lnC by_ tl tok he sq s = mlC by_ tl sq (nmI tok by_ he sq) s := lnC_X.1.trans (lnX_ml hX (fun q => absurd q c_46) (fun q => absurd q c_25))
            have hO : ¬ tkO by_ tl sq = true := fun q => by rw [(hf80_0.2.2.2.1 rfl q).1] at c_87; exact c_87 (by decide)
            obtain ⟨e1, e2⟩ := hf80_0.2.2.2.2.1 rfl hO
            have hL : lnC by_ tl tok he sq s = (1, tkS by_ tl sq) := hLC.trans (ml_tok hX hO)
            rw [hL]; exact Md.bad hf80_0.1 hf80_0.2.1 e1 e2 (by decide)
          · skip
            have hX := x_in c_14
            have hLC : lnC by_ tl tok he sq s = mlC by_ tl sq (nmI tok by_ he sq) s := lnC_X.1.trans (lnX_ml hX (fun q => absurd q c_46) (fun q => absurd q c_25))
            have hO : ¬ tkO by_ tl sq = true := fun q => by rw [(hf80_0.2.2.2.1 rfl q).1] at c_87; exact c_87 (by decide)
            obtain ⟨e1, e2⟩ := hf80_0.2.2.2.2.1 rfl hO
            have hL : lnC by_ tl tok he sq s = (1, tkS by_ tl sq) := hLC.trans (ml_tok hX hO)
            intro q; rw [hL] at q; exact absurd q (show ¬ (1 : Int32) = 0 by decide)
      · skip
        refine v_aload_n (pc := 49) 1 dX5_readLine_49 rfl rfl ?_
        refine gf_794 (pc := 50) 0 dX5_readLine_50 rfl rfl ?_
        refine v_if_le (pc := 53) 61 dX5_readLine_53 (by decide) (fun c_53 => ?_) (fun c_53 => ?_)
        · skip
          refine v_aload_n (pc := 61) 1 dX5_readLine_61 rfl rfl ?_
          refine v_dup (pc := 62) dX5_readLine_62 rfl ?_
          refine gf_794 (pc := 63) 0 dX5_readLine_63 rfl rfl ?_
          refine v_iload_n (pc := 66) 0 dX5_readLine_66 rfl rfl ?_
          suffices J_67 : V l E RX5 cX5_readLine 2 (Option.none : Option Jvm.ClassFile.FieldType) "readLine" ({ frames := 6, cells := 0, slots := 0, locals := 135 }) [(m0, .inr (5, [.ref ma, .int (nI nt), .int (nI pp), .int (th), .ref mp, .int (rn), .int (ro), .int (to), .int (wt), .int (hn), .int (ho), .ref mt, .int (nI tl), .int (fa), .int (bk), .int (ba), .int (nI sq), .int (nI he), .int (tok), .int (val), .ref mc, .ref ml, .ref mn, .int (nI se), .ref mk, .ref mg, .ref mh, .ref mq, .int (tn)])), (mt, .inl (E.2.1 1, 160, .inl (by_))), (mp, .inl (E.2.1 1, 43, .inl (pg))), (mc, .inl (E.2.1 1, 9, .inl (cf))), (ml, .inl (E.2.1 1, 35, .inl (lf)))] 0 0 (fun v wd => ∃ (bk_ : Int32) (ba_ : Int32) (sp_ : Nat) (he_ : Nat) (to_ : Int32) (va_ : Int32) (wt_ : Int32) (hn_ : Int32) (ho_ : Int32) (rn_ : Int32) (ro_ : Int32) (pg_ : Nat → Int32) (tc_ : Int32), v = none ∧ wd = [(m0, .inr (5, [.ref ma, .int (nI nt), .int (nI pp), .int (th), .ref mp, .int (rn_), .int (ro_), .int (tc_), .int (wt_), .int (hn_), .int (ho_), .ref mt, .int (nI tl), .int (fa), .int (bk_), .int (ba_), .int (nI sp_), .int (nI he_), .int (to_), .int (va_), .ref mc, .ref ml, .ref mn, .int (nI se), .ref mk, .ref mg, .ref mh, .ref mq, .int (tn)])), (mt, .inl (E.2.1 1, 160, .inl (by_))), (mp, .inl (E.2.1 1, 43, .inl (pg_))), (mc, .inl (E.2.1 1, 9, .inl (cf))), (ml, .inl (E.2.1 1, 35, .inl (lf)))] ∧ (Md by_ tl (lnC by_ tl tok he sq s) bk_ ba_ sp_ he_ to_ va_) ∧ ((lnC by_ tl tok he sq s).1 = 0 → tc_ = (lnP by_ tl tok he sq s).th ∧ PRm (lnP by_ tl tok he sq s) wt_ hn_ ho_ rn_ ro_ pg_)) 0 0 75 [(1, .int (nmI tok by_ he sq)), (0, .ref m0)] [.int (if (nmI tok by_ he sq) = 0 then 1 else 0), .int (to), .ref m0] [(m0, .inr (5, [.ref ma, .int (nI nt), .int (nI pp), .int (th), .ref mp, .int (rn), .int (ro), .int (to), .int (wt), .int (hn), .int (ho), .ref mt, .int (nI tl), .int (fa), .int (bk), .int (ba), .int (nI sq), .int (nI he), .int (tok), .int (val), .ref mc, .ref ml, .ref mn, .int (nI se), .ref mk, .ref mg, .ref mh, .ref mq, .int (tn)])), (mt, .inl (E.2.1 1, 160, .inl (by_))), (mp, .inl (E.2.1 1, 43, .inl (pg))), (mc, .inl (E.2.1 1, 9, .inl (cf))), (ml, .inl (E.2.1 1, 35, .inl (lf)))] by
            refine v_if_ne (pc := 67) 74 dX5_readLine_67 (by decide) (fun c_67 => ?_) (fun c_67 => ?_)
            · skip
              refine v_iconst (pc := 74) (v := 0) dX5_readLine_74 (by decide) ?_
              refine v_st ?_ J_67
              rw [if_neg (show ¬ ((nmI tok by_ he sq) = 0) from c_67)]
            · skip
              refine v_iconst (pc := 70) (v := 1) dX5_readLine_70 (by decide) ?_
              refine v_goto (pc := 71) 75 dX5_readLine_71 (by decide) ?_
              refine v_st ?_ J_67
              rw [if_pos (show (nmI tok by_ he sq) = 0 from c_67)]
          refine v_iadd (pc := 75) dX5_readLine_75 ?_
          refine pf_794 (pc := 76) (ws' := [(m0, .inr (5, [.ref ma, .int (nI nt), .int (nI pp), .int (th), .ref mp, .int (rn), .int (ro), .int ((to) + (if (nmI tok by_ he sq) = 0 then 1 else 0)), .int (wt), .int (hn), .int (ho), .ref mt, .int (nI tl), .int (fa), .int (bk), .int (ba), .int (nI sq), .int (nI he), .int (tok), .int (val), .ref mc, .ref ml, .ref mn, .int (nI se), .ref mk, .ref mg, .ref mh, .ref mq, .int (tn)])), (mt, .inl (E.2.1 1, 160, .inl (by_))), (mp, .inl (E.2.1 1, 43, .inl (pg))), (mc, .inl (E.2.1 1, 9, .inl (cf))), (ml, .inl (E.2.1 1, 35, .inl (lf)))]) 0 dX5_readLine_76 rfl rfl rfl (Nat.le_of_ble_eq_true rfl) rfl ?_
          refine v_aload_n (pc := 79) 1 dX5_readLine_79 rfl rfl ?_
          refine v_callV (pc := 80) (rest := []) [0, 1] 0 lk_891 (c_X5_step l E m0 ma mp mt mc ml mn mk mg mh mq nt pp tl se th rn ro ((to) + (if (nmI tok by_ he sq) = 0 then 1 else 0)) wt hn ho fa bk ba tok val tn he by_ sq h_tl h_sq (by first | exact h_bk | decide) h_b) dX5_readLine_80 rfl rfl (Nat.le_of_ble_eq_true rfl) (by decide) rfl rfl rfl (by decide) rfl (by rintro _ _ ⟨_, _, _, _, _, _, _, rfl, _⟩; rfl) ?_
          rintro _ _ ⟨bk_80, ba_80, sp_80, he_80, to_80, va_80, rfl, rfl, hf80_0⟩
          refine v_w (ws' := [(m0, .inr (5, [.ref ma, .int (nI nt), .int (nI pp), .int (th), .ref mp, .int (rn), .int (ro), .int (((to) + (if (nmI tok by_ he sq) = 0 then 1 else 0))), .int (wt), .int (hn), .int (ho), .ref mt, .int (nI tl), .int (fa), .int (bk_80), .int (ba_80), .int (nI sp_80), .int (nI he_80), .int (to_80), .int (va_80), .ref mc, .ref ml, .ref mn, .int (nI se), .ref mk, .ref mg, .ref mh, .ref mq, .int (tn)])), (mt, .inl (E.2.1 1, 160, .inl (by_))), (mp, .inl (E.2.1 1, 43, .inl (pg))), (mc, .inl (E.2.1 1, 9, .inl (cf))), (ml, .inl (E.2.1 1, 35, .inl (lf)))]) rfl ?_
          refine v_st (st' := []) rfl ?_
          refine v_aload_n (pc := 83) 1 dX5_readLine_83 rfl rfl ?_
          refine gf_801 (pc := 84) 0 dX5_readLine_84 rfl rfl ?_
          refine v_if_le (pc := 87) 91 dX5_readLine_87 (by decide) (fun c_87 => ?_) (fun c_87 => ?_)
          · skip
            refine v_aload_n (pc := 91) 1 dX5_readLine_91 rfl rfl ?_
            refine v_iload_n (pc := 92) 0 dX5_readLine_92 rfl rfl ?_
            refine v_callV (pc := 93) (rest := []) [0, 1, 2, 3, 4] 0 lk_916 (c_X5_readMore l E m0 ma mp mt mc ml mn mk mg mh mq nt pp 0 tl se th rn ro ((to) + (if (nmI tok by_ he sq) = 0 then 1 else 0)) wt hn ho fa bk_80 ba_80 to_80 va_80 tn sp_80 he_80 by_ sq (nmI tok by_ he sq) s cf lf pg h_tl h_b hf80_0 h_sq (x_in c_14) (fun q => absurd q c_25) h_pr h_gs h_cf h_lf) dX5_readLine_93 rfl rfl (Nat.le_of_ble_eq_true rfl) (by decide) rfl rfl rfl (by decide) rfl (by rintro _ _ ⟨_, _, _, _, _, _, _, _, _, _, _, _, _, _, rfl, _⟩; rfl) ?_
            rintro _ _ ⟨bk_93, ba_93, sp_93, he_93, to_93, va_93, wt_93, hn_93, ho_93, rn_93, ro_93, pg_93, r_93, rfl, rfl, hf93_0, hf93_1, hf93_2⟩
            refine v_w (ws' := [(m0, .inr (5, [.ref ma, .int (nI nt), .int (nI pp), .int (th), .ref mp, .int (rn_93), .int (ro_93), .int (((to) + (if (nmI tok by_ he sq) = 0 then 1 else 0))), .int (wt_93), .int (hn_93), .int (ho_93), .ref mt, .int (nI tl), .int (fa), .int (bk_93), .int (ba_93), .int (nI sp_93), .int (nI he_93), .int (to_93), .int (va_93), .ref mc, .ref ml, .ref mn, .int (nI se), .ref mk, .ref mg, .ref mh, .ref mq, .int (tn)])), (mt, .inl (E.2.1 1, 160, .inl (by_))), (mp, .inl (E.2.1 1, 43, .inl (pg_93))), (mc, .inl (E.2.1 1, 9, .inl (cf))), (ml, .inl (E.2.1 1, 35, .inl (lf)))]) rfl ?_
            refine v_st (st' := []) rfl ?_
            refine v_aload_n (pc := 96) 1 dX5_readLine_96 rfl rfl ?_
            refine gf_801 (pc := 97) 0 dX5_readLine_97 rfl rfl ?_
            refine v_if_ne (pc := 100) 116 dX5_readLine_100 (by decide) (fun c_100 => ?_) (fun c_100 => ?_)
            · skip
              refine v_aload_n (pc := 116) 1 dX5_readLine_116 rfl rfl ?_
              refine v_callV (pc := 117) (rest := []) [0] 0 lk_891 (cB_X5_step l E m0 ma mp mt mc ml mn mk mg mh mq nt pp tl se th rn_93 ro_93 ((to) + (if (nmI tok by_ he sq) = 0 then 1 else 0)) wt_93 hn_93 ho_93 fa bk_93 ba_93 (nI sp_93) (nI he_93) to_93 va_93 tn (by first | exact c_100 | exact hf93_0.pos.resolve_left c_100 | decide)) dX5_readLine_117 rfl rfl (Nat.le_of_ble_eq_true rfl) (by decide) rfl rfl rfl (by decide) rfl (Rt.len rfl) (Rt.go ?_)
              refine v_w (ws' := [(m0, .inr (5, [.ref ma, .int (nI nt), .int (nI pp), .int (th), .ref mp, .int (rn_93), .int (ro_93), .int (((to) + (if (nmI tok by_ he sq) = 0 then 1 else 0))), .int (wt_93), .int (hn_93), .int (ho_93), .ref mt, .int (nI tl), .int (fa), .int (bk_93), .int (ba_93), .int ((nI sp_93)), .int ((nI he_93)), .int (to_93), .int (va_93), .ref mc, .ref ml, .ref mn, .int (nI se), .ref mk, .ref mg, .ref mh, .ref mq, .int (tn)])), (mt, .inl (E.2.1 1, 160, .inl (by_))), (mp, .inl (E.2.1 1, 43, .inl (pg_93))), (mc, .inl (E.2.1 1, 9, .inl (cf))), (ml, .inl (E.2.1 1, 35, .inl (lf)))]) rfl ?_
              refine v_st (st' := []) rfl ?_
              refine v_vret (pc := 120) dX5_readLine_120 rfl ⟨rfl, rfl⟩ ⟨(bk_93), (ba_93), (sp_93), (he_93), (to_93), (va_93), (wt_93), (hn_93), (ho_93), (rn_93), (ro_93), (pg_93), (((to) + (if (nmI tok by_ he sq) = 0 then 1 else 0))), ?_, rfl, ?_, ?_⟩
              · skip
                rfl
              · skip
                have hX := x_in c_14
                have hLC : lnC by_ tl tok he sq s = mlC by_ tl sq (nmI tok by_ he sq) s := lnC_X.1.trans (lnX_ml hX (fun _ => h_gs.1.resolve_right (fun q => by rw [h_to, q] at c_53; exact absurd c_53 (by decide))) (fun q => absurd q c_25))
                have hA : lnC by_ tl tok he sq s = andT by_ tl r_93 (clK by_ tl r_93.2) := hLC.trans hf93_1
                rw [hA]; exact (hf93_0.stay _ c_100).1
              · skip
                have hX := x_in c_14
                have hLC : lnC by_ tl tok he sq s = mlC by_ tl sq (nmI tok by_ he sq) s := lnC_X.1.trans (lnX_ml hX (fun _ => h_gs.1.resolve_right (fun q => by rw [h_to, q] at c_53; exact absurd c_53 (by decide))) (fun q => absurd q c_25))
                have hA : lnC by_ tl tok he sq s = andT by_ tl r_93 (clK by_ tl r_93.2) := hLC.trans hf93_1
                intro q; rw [hA] at q; exact absurd q (hf93_0.stay _ c_100).2
            · skip
              refine v_aload_n (pc := 103) 1 dX5_readLine_103 rfl rfl ?_
              refine gf_805 (pc := 104) 0 dX5_readLine_104 rfl rfl ?_
              refine v_iconst (pc := 107) (v := 3) dX5_readLine_107 (by decide) ?_
              refine v_icmp_eq (pc := 108) 116 dX5_readLine_108 (by decide) (fun c_108 => ?_) (fun c_108 => ?_)
              · skip
                refine v_aload_n (pc := 116) 1 dX5_readLine_116 rfl rfl ?_
                refine v_callV (pc := 117) (rest := []) [0, 1] 0 lk_891 (c_X5_step l E m0 ma mp mt mc ml mn mk mg mh mq nt pp tl se th rn_93 ro_93 ((to) + (if (nmI tok by_ he sq) = 0 then 1 else 0)) wt_93 hn_93 ho_93 fa bk_93 ba_93 to_93 va_93 tn he_93 by_ sp_93 h_tl hf93_0.1 (by first | exact c_100 | exact hf93_0.pos.resolve_left c_100 | decide) h_b) dX5_readLine_117 rfl rfl (Nat.le_of_ble_eq_true rfl) (by decide) rfl rfl rfl (by decide) rfl (by rintro _ _ ⟨_, _, _, _, _, _, _, rfl, _⟩; rfl) ?_
                rintro _ _ ⟨bk_117, ba_117, sp_117, he_117, to_117, va_117, rfl, rfl, hf117_0⟩
                refine v_w (ws' := [(m0, .inr (5, [.ref ma, .int (nI nt), .int (nI pp), .int (th), .ref mp, .int (rn_93), .int (ro_93), .int (((to) + (if (nmI tok by_ he sq) = 0 then 1 else 0))), .int (wt_93), .int (hn_93), .int (ho_93), .ref mt, .int (nI tl), .int (fa), .int (bk_117), .int (ba_117), .int (nI sp_117), .int (nI he_117), .int (to_117), .int (va_117), .ref mc, .ref ml, .ref mn, .int (nI se), .ref mk, .ref mg, .ref mh, .ref mq, .int (tn)])), (mt, .inl (E.2.1 1, 160, .inl (by_))), (mp, .inl (E.2.1 1, 43, .inl (pg_93))), (mc, .inl (E.2.1 1, 9, .inl (cf))), (ml, .inl (E.2.1 1, 35, .inl (lf)))]) rfl ?_
                refine v_st (st' := []) rfl ?_
                refine v_vret (pc := 120) dX5_readLine_120 rfl ⟨rfl, rfl⟩ ⟨(bk_117), (ba_117), (sp_117), (he_117), (to_117), (va_117), (wt_93), (hn_93), (ho_93), (rn_93), (ro_93), (pg_93), (((to) + (if (nmI tok by_ he sq) = 0 then 1 else 0))), ?_, rfl, ?_, ?_⟩
                · skip
                  rfl
                · skip
                  have hX := x_in c_14
                  have hLC : lnC by_ tl tok he sq s = mlC by_ tl sq (nmI tok by_ he sq) s := lnC_X.1.trans (lnX_ml hX (fun _ => h_gs.1.resolve_right (fun q => by rw [h_to, q] at c_53; exact absurd c_53 (by decide))) (fun q => absurd q c_25))
                  have hA : lnC by_ tl tok he sq s = andT by_ tl r_93 (clK by_ tl r_93.2) := hLC.trans hf93_1
                  obtain ⟨h1, h2, h3, h4, h5, h6, h7⟩ := hf93_0.at c_100
                  have hL : lnC by_ tl tok he sq s = (0, tkN by_ tl r_93.2) := by rw [hA, andT_ok h1 h2]; unfold clK; rw [if_pos (by rw [← h6]; exact c_108)]
                  rw [hL, ← h4]; exact hf117_0
                · skip
                  have hX := x_in c_14
                  have hLC : lnC by_ tl tok he sq s = mlC by_ tl sq (nmI tok by_ he sq) s := lnC_X.1.trans (lnX_ml hX (fun _ => h_gs.1.resolve_right (fun q => by rw [h_to, q] at c_53; exact absurd c_53 (by decide))) (fun q => absurd q c_25))
                  have hA : lnC by_ tl tok he sq s = andT by_ tl r_93 (clK by_ tl r_93.2) := hLC.trans hf93_1
                  obtain ⟨h1, h2, h3, h4, h5, h6, h7⟩ := hf93_0.at c_100
                  have hL : lnC by_ tl tok he sq s = (0, tkN by_ tl r_93.2) := by rw [hA, andT_ok h1 h2]; unfold clK; rw [if_pos (by rw [← h6]; exact c_108)]
                  intro _; rw [lnC_X.2]; exact ⟨by rw [h_to]; exact mlP_th hX (fun _ => h_gs.1.resolve_right (fun q => by rw [h_to, q] at c_53; exact absurd c_53 (by decide))), hf93_2 h1⟩
              · skip
                refine v_aload_n (pc := 111) 1 dX5_readLine_111 rfl rfl ?_
                refine v_iconst (pc := 112) (v := 2) dX5_readLine_112 (by decide) ?_
                refine v_callV (pc := 113) (rest := []) [0] 0 lk_903 (c_X5_fails l E m0 ma mp mt mc ml mn mk mg mh mq nt pp tl se th rn_93 ro_93 ((to) + (if (nmI tok by_ he sq) = 0 then 1 else 0)) wt_93 hn_93 ho_93 fa bk_93 ba_93 (nI sp_93) (nI he_93) to_93 va_93 tn 2) dX5_readLine_113 rfl rfl (Nat.le_of_ble_eq_true rfl) (by decide) rfl rfl rfl (by decide) rfl (Rt.len rfl) (Rt.go ?_)
                refine v_w (ws' := [(m0, .inr (5, [.ref ma, .int (nI nt), .int (nI pp), .int (th), .ref mp, .int (rn_93), .int (ro_93), .int (((to) + (if (nmI tok by_ he sq) = 0 then 1 else 0))), .int (wt_93), .int (hn_93), .int (ho_93), .ref mt, .int (nI tl), .int (fa), .int (if bk_93 = 0 then 2 else bk_93), .int (if bk_93 = 0 then (nI he_93) else ba_93), .int ((nI sp_93)), .int ((nI he_93)), .int (to_93), .int (va_93), .ref mc, .ref ml, .ref mn, .int (nI se), .ref mk, .ref mg, .ref mh, .ref mq, .int (tn)])), (mt, .inl (E.2.1 1, 160, .inl (by_))), (mp, .inl (E.2.1 1, 43, .inl (pg_93))), (mc, .inl (E.2.1 1, 9, .inl (cf))), (ml, .inl (E.2.1 1, 35, .inl (lf)))]) rfl ?_
                refine v_st (st' := []) rfl ?_
                refine v_w (ws' := [(m0, .inr (5, [.ref ma, .int (nI nt), .int (nI pp), .int (th), .ref mp, .int (rn_93), .int (ro_93), .int (((to) + (if (nmI tok by_ he sq) = 0 then 1 else 0))), .int (wt_93), .int (hn_93), .int (ho_93), .ref mt, .int (nI tl), .int (fa), .int (2), .int (nI he_93), .int ((nI sp_93)), .int ((nI he_93)), .int (to_93), .int (va_93), .ref mc, .ref ml, .ref mn, .int (nI se), .ref mk, .ref mg, .ref mh, .ref mq, .int (tn)])), (mt, .inl (E.2.1 1, 160, .inl (by_))), (mp, .inl (E.2.1 1, 43, .inl (pg_93))), (mc, .inl (E.2.1 1, 9, .inl (cf))), (ml, .inl (E.2.1 1, 35, .inl (lf)))]) (by rw [if_pos c_100, if_pos c_100]) ?_
                refine v_aload_n (pc := 116) 1 dX5_readLine_116 rfl rfl ?_
                refine v_callV (pc := 117) (rest := []) [0] 0 lk_891 (cB_X5_step l E m0 ma mp mt mc ml mn mk mg mh mq nt pp tl se th rn_93 ro_93 ((to) + (if (nmI tok by_ he sq) = 0 then 1 else 0)) wt_93 hn_93 ho_93 fa 2 (nI he_93) (nI sp_93) (nI he_93) to_93 va_93 tn (by first | exact c_100 | exact hf93_0.pos.resolve_left c_100 | decide)) dX5_readLine_117 rfl rfl (Nat.le_of_ble_eq_true rfl) (by decide) rfl rfl rfl (by decide) rfl (Rt.len rfl) (Rt.go ?_)
                refine v_w (ws' := [(m0, .inr (5, [.ref ma, .int (nI nt), .int (nI pp), .int (th), .ref mp, .int (rn_93), .int (ro_93), .int (((to) + (if (nmI tok by_ he sq) = 0 then 1 else 0))), .int (wt_93), .int (hn_93), .int (ho_93), .ref mt, .int (nI tl), .int (fa), .int (2), .int ((nI he_93)), .int ((nI sp_93)), .int ((nI he_93)), .int (to_93), .int (va_93), .ref mc, .ref ml, .ref mn, .int (nI se), .ref mk, .ref mg, .ref mh, .ref mq, .int (tn)])), (mt, .inl (E.2.1 1, 160, .inl (by_))), (mp, .inl (E.2.1 1, 43, .inl (pg_93))), (mc, .inl (E.2.1 1, 9, .inl (cf))), (ml, .inl (E.2.1 1, 35, .inl (lf)))]) rfl ?_
                refine v_st (st' := []) rfl ?_
                refine v_vret (pc := 120) dX5_readLine_120 rfl ⟨rfl, rfl⟩ ⟨(2), ((nI he_93)), (sp_93), (he_93), (to_93), (va_93), (wt_93), (hn_93), (ho_93), (rn_93), (ro_93), (pg_93), (((to) + (if (nmI tok by_ he sq) = 0 then 1 else 0))), ?_, rfl, ?_, ?_⟩
                · skip
                  rfl
                · skip
                  have hX := x_in c_14
                  have hLC : lnC by_ tl tok he sq s = mlC by_ tl sq (nmI tok by_ he sq) s := lnC_X.1.trans (lnX_ml hX (fun _ => h_gs.1.resolve_right (fun q => by rw [h_to, q] at c_53; exact absurd c_53 (by decide))) (fun q => absurd q c_25))
                  have hA : lnC by_ tl tok he sq s = andT by_ tl r_93 (clK by_ tl r_93.2) := hLC.trans hf93_1
                  obtain ⟨h1, h2, h3, h4, h5, h6, h7⟩ := hf93_0.at c_100
                  have hL : lnC by_ tl tok he sq s = (2, tkS by_ tl r_93.2) := by rw [hA, andT_ok h1 h2]; unfold clK; rw [if_neg (by rw [← h6]; exact c_108)]
                  rw [hL]; exact Md.bad hf93_0.1 hf93_0.2.1 rfl (by rw [h5]) (by decide)
                · skip
                  have hX := x_in c_14
                  have hLC : lnC by_ tl tok he sq s = mlC by_ tl sq (nmI tok by_ he sq) s := lnC_X.1.trans (lnX_ml hX (fun _ => h_gs.1.resolve_right (fun q => by rw [h_to, q] at c_53; exact absurd c_53 (by decide))) (fun q => absurd q c_25))
                  have hA : lnC by_ tl tok he sq s = andT by_ tl r_93 (clK by_ tl r_93.2) := hLC.trans hf93_1
                  obtain ⟨h1, h2, h3, h4, h5, h6, h7⟩ := hf93_0.at c_100
                  have hL : lnC by_ tl tok he sq s = (2, tkS by_ tl r_93.2) := by rw [hA, andT_ok h1 h2]; unfold clK; rw [if_neg (by rw [← h6]; exact c_108)]
                  intro q; rw [hL] at q; exact absurd q (show ¬ (2 : Int32) = 0 by decide)
          · skip
            refine v_vret (pc := 90) dX5_readLine_90 rfl ⟨rfl, rfl⟩ ⟨(bk_80), (ba_80), (sp_80), (he_80), (to_80), (va_80), (wt), (hn), (ho), (rn), (ro), (pg), (((to) + (if (nmI tok by_ he sq) = 0 then 1 else 0))), ?_, rfl, ?_, ?_⟩
            · skip
              rfl
            · skip
              have hX := x_in c_14
              have hLC : lnC by_ tl tok he sq s = mlC by_ tl sq (nmI tok by_ he sq) s := lnC_X.1.trans (lnX_ml hX (fun _ => h_gs.1.resolve_right (fun q => by rw [h_to, q] at c_53; exact absurd c_53 (by decide))) (fun q => absurd q c_25))
              have hO : ¬ tkO by_ tl sq = true := fun q => by rw [(hf80_0.2.2.2.1 rfl q).1] at c_87; exact c_87 (by decide)
              obtain ⟨e1, e2⟩ := hf80_0.2.2.2.2.1 rfl hO
              have hL : lnC by_ tl tok he sq s = (1, tkS by_ tl sq) := hLC.trans (ml_tok hX hO)
              rw [hL]; exact Md.bad hf80_0.1 hf80_0.2.1 e1 e2 (by decide)
            · skip
              have hX := x_in c_14
              have hLC : lnC by_ tl tok he sq s = mlC by_ tl sq (nmI tok by_ he sq) s := lnC_X.1.trans (lnX_ml hX (fun _ => h_gs.1.resolve_right (fun q => by rw [h_to, q] at c_53; exact absurd c_53 (by decide))) (fun q => absurd q c_25))
              have hO : ¬ tkO by_ tl sq = true := fun q => by rw [(hf80_0.2.2.2.1 rfl q).1] at c_87; exact c_87 (by decide)
              obtain ⟨e1, e2⟩ := hf80_0.2.2.2.2.1 rfl hO
              have hL : lnC by_ tl tok he sq s = (1, tkS by_ tl sq) := hLC.trans (ml_tok hX hO)
              intro q; rw [hL] at q; exact absurd q (show ¬ (1 : Int32) = 0 by decide)
        · skip
          refine v_aload_n (pc := 56) 1 dX5_readLine_56 rfl rfl ?_
          refine v_iconst (pc := 57) (v := 4) dX5_readLine_57 (by decide) ?_
          refine v_callV (pc := 58) (rest := []) [0] 0 lk_903 (c_X5_fails l E m0 ma mp mt mc ml mn mk mg mh mq nt pp tl se th rn ro to wt hn ho fa bk ba (nI sq) (nI he) tok val tn 4) dX5_readLine_58 rfl rfl (Nat.le_of_ble_eq_true rfl) (by decide) rfl rfl rfl (by decide) rfl (Rt.len rfl) (Rt.go ?_)
          refine v_w (ws' := [(m0, .inr (5, [.ref ma, .int (nI nt), .int (nI pp), .int (th), .ref mp, .int (rn), .int (ro), .int (to), .int (wt), .int (hn), .int (ho), .ref mt, .int (nI tl), .int (fa), .int (if bk = 0 then 4 else bk), .int (if bk = 0 then (nI he) else ba), .int ((nI sq)), .int ((nI he)), .int (tok), .int (val), .ref mc, .ref ml, .ref mn, .int (nI se), .ref mk, .ref mg, .ref mh, .ref mq, .int (tn)])), (mt, .inl (E.2.1 1, 160, .inl (by_))), (mp, .inl (E.2.1 1, 43, .inl (pg))), (mc, .inl (E.2.1 1, 9, .inl (cf))), (ml, .inl (E.2.1 1, 35, .inl (lf)))]) rfl ?_
          refine v_st (st' := []) rfl ?_
          refine v_w (ws' := [(m0, .inr (5, [.ref ma, .int (nI nt), .int (nI pp), .int (th), .ref mp, .int (rn), .int (ro), .int (to), .int (wt), .int (hn), .int (ho), .ref mt, .int (nI tl), .int (fa), .int (4), .int (nI he), .int ((nI sq)), .int ((nI he)), .int (tok), .int (val), .ref mc, .ref ml, .ref mn, .int (nI se), .ref mk, .ref mg, .ref mh, .ref mq, .int (tn)])), (mt, .inl (E.2.1 1, 160, .inl (by_))), (mp, .inl (E.2.1 1, 43, .inl (pg))), (mc, .inl (E.2.1 1, 9, .inl (cf))), (ml, .inl (E.2.1 1, 35, .inl (lf)))]) (by rw [if_pos h_bk, if_pos h_bk]) ?_
          refine v_aload_n (pc := 61) 1 dX5_readLine_61 rfl rfl ?_
          refine v_dup (pc := 62) dX5_readLine_62 rfl ?_
          refine gf_794 (pc := 63) 0 dX5_readLine_63 rfl rfl ?_
          refine v_iload_n (pc := 66) 0 dX5_readLine_66 rfl rfl ?_
          suffices J_67 : V l E RX5 cX5_readLine 2 (Option.none : Option Jvm.ClassFile.FieldType) "readLine" ({ frames := 6, cells := 0, slots := 0, locals := 135 }) [(m0, .inr (5, [.ref ma, .int (nI nt), .int (nI pp), .int (th), .ref mp, .int (rn), .int (ro), .int (to), .int (wt), .int (hn), .int (ho), .ref mt, .int (nI tl), .int (fa), .int (bk), .int (ba), .int (nI sq), .int (nI he), .int (tok), .int (val), .ref mc, .ref ml, .ref mn, .int (nI se), .ref mk, .ref mg, .ref mh, .ref mq, .int (tn)])), (mt, .inl (E.2.1 1, 160, .inl (by_))), (mp, .inl (E.2.1 1, 43, .inl (pg))), (mc, .inl (E.2.1 1, 9, .inl (cf))), (ml, .inl (E.2.1 1, 35, .inl (lf)))] 0 0 (fun v wd => ∃ (bk_ : Int32) (ba_ : Int32) (sp_ : Nat) (he_ : Nat) (to_ : Int32) (va_ : Int32) (wt_ : Int32) (hn_ : Int32) (ho_ : Int32) (rn_ : Int32) (ro_ : Int32) (pg_ : Nat → Int32) (tc_ : Int32), v = none ∧ wd = [(m0, .inr (5, [.ref ma, .int (nI nt), .int (nI pp), .int (th), .ref mp, .int (rn_), .int (ro_), .int (tc_), .int (wt_), .int (hn_), .int (ho_), .ref mt, .int (nI tl), .int (fa), .int (bk_), .int (ba_), .int (nI sp_), .int (nI he_), .int (to_), .int (va_), .ref mc, .ref ml, .ref mn, .int (nI se), .ref mk, .ref mg, .ref mh, .ref mq, .int (tn)])), (mt, .inl (E.2.1 1, 160, .inl (by_))), (mp, .inl (E.2.1 1, 43, .inl (pg_))), (mc, .inl (E.2.1 1, 9, .inl (cf))), (ml, .inl (E.2.1 1, 35, .inl (lf)))] ∧ (Md by_ tl (lnC by_ tl tok he sq s) bk_ ba_ sp_ he_ to_ va_) ∧ ((lnC by_ tl tok he sq s).1 = 0 → tc_ = (lnP by_ tl tok he sq s).th ∧ PRm (lnP by_ tl tok he sq s) wt_ hn_ ho_ rn_ ro_ pg_)) 0 0 75 [(1, .int (nmI tok by_ he sq)), (0, .ref m0)] [.int (if (nmI tok by_ he sq) = 0 then 1 else 0), .int (to), .ref m0] [(m0, .inr (5, [.ref ma, .int (nI nt), .int (nI pp), .int (th), .ref mp, .int (rn), .int (ro), .int (to), .int (wt), .int (hn), .int (ho), .ref mt, .int (nI tl), .int (fa), .int (4), .int (nI he), .int ((nI sq)), .int ((nI he)), .int (tok), .int (val), .ref mc, .ref ml, .ref mn, .int (nI se), .ref mk, .ref mg, .ref mh, .ref mq, .int (tn)])), (mt, .inl (E.2.1 1, 160, .inl (by_))), (mp, .inl (E.2.1 1, 43, .inl (pg))), (mc, .inl (E.2.1 1, 9, .inl (cf))), (ml, .inl (E.2.1 1, 35, .inl (lf)))] by
            refine v_if_ne (pc := 67) 74 dX5_readLine_67 (by decide) (fun c_67 => ?_) (fun c_67 => ?_)
            · skip
              refine v_iconst (pc := 74) (v := 0) dX5_readLine_74 (by decide) ?_
              refine v_st ?_ J_67
              rw [if_neg (show ¬ ((nmI tok by_ he sq) = 0) from c_67)]
            · skip
              refine v_iconst (pc := 70) (v := 1) dX5_readLine_70 (by decide) ?_
              refine v_goto (pc := 71) 75 dX5_readLine_71 (by decide) ?_
              refine v_st ?_ J_67
              rw [if_pos (show (nmI tok by_ he sq) = 0 from c_67)]
          refine v_iadd (pc := 75) dX5_readLine_75 ?_
          refine pf_794 (pc := 76) (ws' := [(m0, .inr (5, [.ref ma, .int (nI nt), .int (nI pp), .int (th), .ref mp, .int (rn), .int (ro), .int ((to) + (if (nmI tok by_ he sq) = 0 then 1 else 0)), .int (wt), .int (hn), .int (ho), .ref mt, .int (nI tl), .int (fa), .int (4), .int (nI he), .int ((nI sq)), .int ((nI he)), .int (tok), .int (val), .ref mc, .ref ml, .ref mn, .int (nI se), .ref mk, .ref mg, .ref mh, .ref mq, .int (tn)])), (mt, .inl (E.2.1 1, 160, .inl (by_))), (mp, .inl (E.2.1 1, 43, .inl (pg))), (mc, .inl (E.2.1 1, 9, .inl (cf))), (ml, .inl (E.2.1 1, 35, .inl (lf)))]) 0 dX5_readLine_76 rfl rfl rfl (Nat.le_of_ble_eq_true rfl) rfl ?_
          refine v_aload_n (pc := 79) 1 dX5_readLine_79 rfl rfl ?_
          refine v_callV (pc := 80) (rest := []) [0] 0 lk_891 (cB_X5_step l E m0 ma mp mt mc ml mn mk mg mh mq nt pp tl se th rn ro ((to) + (if (nmI tok by_ he sq) = 0 then 1 else 0)) wt hn ho fa 4 (nI he) (nI sq) (nI he) tok val tn (by first | exact h_bk | decide)) dX5_readLine_80 rfl rfl (Nat.le_of_ble_eq_true rfl) (by decide) rfl rfl rfl (by decide) rfl (Rt.len rfl) (Rt.go ?_)
          refine v_w (ws' := [(m0, .inr (5, [.ref ma, .int (nI nt), .int (nI pp), .int (th), .ref mp, .int (rn), .int (ro), .int (((to) + (if (nmI tok by_ he sq) = 0 then 1 else 0))), .int (wt), .int (hn), .int (ho), .ref mt, .int (nI tl), .int (fa), .int (4), .int ((nI he)), .int ((nI sq)), .int ((nI he)), .int (tok), .int (val), .ref mc, .ref ml, .ref mn, .int (nI se), .ref mk, .ref mg, .ref mh, .ref mq, .int (tn)])), (mt, .inl (E.2.1 1, 160, .inl (by_))), (mp, .inl (E.2.1 1, 43, .inl (pg))), (mc, .inl (E.2.1 1, 9, .inl (cf))), (ml, .inl (E.2.1 1, 35, .inl (lf)))]) rfl ?_
          refine v_st (st' := []) rfl ?_
          refine v_aload_n (pc := 83) 1 dX5_readLine_83 rfl rfl ?_
          refine gf_801 (pc := 84) 0 dX5_readLine_84 rfl rfl ?_
          refine v_if_le (pc := 87) 91 dX5_readLine_87 (by decide) (fun c => absurd c (by decide)) (fun _ => ?_)
          refine v_vret (pc := 90) dX5_readLine_90 rfl ⟨rfl, rfl⟩ ⟨(4), ((nI he)), (sq), (he), (tok), (val), (wt), (hn), (ho), (rn), (ro), (pg), (((to) + (if (nmI tok by_ he sq) = 0 then 1 else 0))), ?_, rfl, ?_, ?_⟩
          · skip
            rfl
          · skip
            have hL : lnC by_ tl tok he sq s = (4, he) := by rw [lnC_X.1, c_46]; show lnStreet by_ tl sq he s.th = _; unfold lnStreet; rw [if_neg (fun q => by rw [h_to, q] at c_53; exact c_53 (by decide))]
            rw [hL]; exact Md.bad h_sq h_he (by rfl) (by rfl) (by decide)
          · skip
            have hL : lnC by_ tl tok he sq s = (4, he) := by rw [lnC_X.1, c_46]; show lnStreet by_ tl sq he s.th = _; unfold lnStreet; rw [if_neg (fun q => by rw [h_to, q] at c_53; exact c_53 (by decide))]
            intro q; rw [hL] at q; exact absurd q (show ¬ (4 : Int32) = 0 by decide)
    · skip
      refine v_aload_n (pc := 28) 1 dX5_readLine_28 rfl rfl ?_
      refine gf_791 (pc := 29) 0 dX5_readLine_29 rfl rfl ?_
      refine v_bipush (pc := 32) (v := 38) dX5_readLine_32 (by decide) ?_
      refine v_ialdN (pc := 34) 2 1 (38) dX5_readLine_34 rfl rfl rfl (by decide) (by decide) ?_
      refine v_bipush (pc := 35) (v := 8) dX5_readLine_35 (by decide) ?_
      refine v_icmp_ne (pc := 37) 45 dX5_readLine_37 (by decide) (fun c_37 => ?_) (fun c_37 => ?_)
      · skip
        refine v_iload_n (pc := 45) 0 dX5_readLine_45 rfl rfl ?_
        refine v_if_ne (pc := 46) 61 dX5_readLine_46 (by decide) (fun c_46 => ?_) (fun c_46 => ?_)
        · skip
          refine v_aload_n (pc := 61) 1 dX5_readLine_61 rfl rfl ?_
          refine v_dup (pc := 62) dX5_readLine_62 rfl ?_
          refine gf_794 (pc := 63) 0 dX5_readLine_63 rfl rfl ?_
          refine v_iload_n (pc := 66) 0 dX5_readLine_66 rfl rfl ?_
          suffices J_67 : V l E RX5 cX5_readLine 2 (Option.none : Option Jvm.ClassFile.FieldType) "readLine" ({ frames := 6, cells := 0, slots := 0, locals := 135 }) [(m0, .inr (5, [.ref ma, .int (nI nt), .int (nI pp), .int (th), .ref mp, .int (rn), .int (ro), .int (to), .int (wt), .int (hn), .int (ho), .ref mt, .int (nI tl), .int (fa), .int (bk), .int (ba), .int (nI sq), .int (nI he), .int (tok), .int (val), .ref mc, .ref ml, .ref mn, .int (nI se), .ref mk, .ref mg, .ref mh, .ref mq, .int (tn)])), (mt, .inl (E.2.1 1, 160, .inl (by_))), (mp, .inl (E.2.1 1, 43, .inl (pg))), (mc, .inl (E.2.1 1, 9, .inl (cf))), (ml, .inl (E.2.1 1, 35, .inl (lf)))] 0 0 (fun v wd => ∃ (bk_ : Int32) (ba_ : Int32) (sp_ : Nat) (he_ : Nat) (to_ : Int32) (va_ : Int32) (wt_ : Int32) (hn_ : Int32) (ho_ : Int32) (rn_ : Int32) (ro_ : Int32) (pg_ : Nat → Int32) (tc_ : Int32), v = none ∧ wd = [(m0, .inr (5, [.ref ma, .int (nI nt), .int (nI pp), .int (th), .ref mp, .int (rn_), .int (ro_), .int (tc_), .int (wt_), .int (hn_), .int (ho_), .ref mt, .int (nI tl), .int (fa), .int (bk_), .int (ba_), .int (nI sp_), .int (nI he_), .int (to_), .int (va_), .ref mc, .ref ml, .ref mn, .int (nI se), .ref mk, .ref mg, .ref mh, .ref mq, .int (tn)])), (mt, .inl (E.2.1 1, 160, .inl (by_))), (mp, .inl (E.2.1 1, 43, .inl (pg_))), (mc, .inl (E.2.1 1, 9, .inl (cf))), (ml, .inl (E.2.1 1, 35, .inl (lf)))] ∧ (Md by_ tl (lnC by_ tl tok he sq s) bk_ ba_ sp_ he_ to_ va_) ∧ ((lnC by_ tl tok he sq s).1 = 0 → tc_ = (lnP by_ tl tok he sq s).th ∧ PRm (lnP by_ tl tok he sq s) wt_ hn_ ho_ rn_ ro_ pg_)) 0 0 75 [(1, .int (nmI tok by_ he sq)), (0, .ref m0)] [.int (if (nmI tok by_ he sq) = 0 then 1 else 0), .int (to), .ref m0] [(m0, .inr (5, [.ref ma, .int (nI nt), .int (nI pp), .int (th), .ref mp, .int (rn), .int (ro), .int (to), .int (wt), .int (hn), .int (ho), .ref mt, .int (nI tl), .int (fa), .int (bk), .int (ba), .int (nI sq), .int (nI he), .int (tok), .int (val), .ref mc, .ref ml, .ref mn, .int (nI se), .ref mk, .ref mg, .ref mh, .ref mq, .int (tn)])), (mt, .inl (E.2.1 1, 160, .inl (by_))), (mp, .inl (E.2.1 1, 43, .inl (pg))), (mc, .inl (E.2.1 1, 9, .inl (cf))), (ml, .inl (E.2.1 1, 35, .inl (lf)))] by
            refine v_if_ne (pc := 67) 74 dX5_readLine_67 (by decide) (fun c_67 => ?_) (fun c_67 => ?_)
            · skip
              refine v_iconst (pc := 74) (v := 0) dX5_readLine_74 (by decide) ?_
              refine v_st ?_ J_67
              rw [if_neg (show ¬ ((nmI tok by_ he sq) = 0) from c_67)]
            · skip
              refine v_iconst (pc := 70) (v := 1) dX5_readLine_70 (by decide) ?_
              refine v_goto (pc := 71) 75 dX5_readLine_71 (by decide) ?_
              refine v_st ?_ J_67
              rw [if_pos (show (nmI tok by_ he sq) = 0 from c_67)]
          refine v_iadd (pc := 75) dX5_readLine_75 ?_
          refine pf_794 (pc := 76) (ws' := [(m0, .inr (5, [.ref ma, .int (nI nt), .int (nI pp), .int (th), .ref mp, .int (rn), .int (ro), .int ((to) + (if (nmI tok by_ he sq) = 0 then 1 else 0)), .int (wt), .int (hn), .int (ho), .ref mt, .int (nI tl), .int (fa), .int (bk), .int (ba), .int (nI sq), .int (nI he), .int (tok), .int (val), .ref mc, .ref ml, .ref mn, .int (nI se), .ref mk, .ref mg, .ref mh, .ref mq, .int (tn)])), (mt, .inl (E.2.1 1, 160, .inl (by_))), (mp, .inl (E.2.1 1, 43, .inl (pg))), (mc, .inl (E.2.1 1, 9, .inl (cf))), (ml, .inl (E.2.1 1, 35, .inl (lf)))]) 0 dX5_readLine_76 rfl rfl rfl (Nat.le_of_ble_eq_true rfl) rfl ?_
          refine v_aload_n (pc := 79) 1 dX5_readLine_79 rfl rfl ?_
          refine v_callV (pc := 80) (rest := []) [0, 1] 0 lk_891 (c_X5_step l E m0 ma mp mt mc ml mn mk mg mh mq nt pp tl se th rn ro ((to) + (if (nmI tok by_ he sq) = 0 then 1 else 0)) wt hn ho fa bk ba tok val tn he by_ sq h_tl h_sq (by first | exact h_bk | decide) h_b) dX5_readLine_80 rfl rfl (Nat.le_of_ble_eq_true rfl) (by decide) rfl rfl rfl (by decide) rfl (by rintro _ _ ⟨_, _, _, _, _, _, _, rfl, _⟩; rfl) ?_
          rintro _ _ ⟨bk_80, ba_80, sp_80, he_80, to_80, va_80, rfl, rfl, hf80_0⟩
          refine v_w (ws' := [(m0, .inr (5, [.ref ma, .int (nI nt), .int (nI pp), .int (th), .ref mp, .int (rn), .int (ro), .int (((to) + (if (nmI tok by_ he sq) = 0 then 1 else 0))), .int (wt), .int (hn), .int (ho), .ref mt, .int (nI tl), .int (fa), .int (bk_80), .int (ba_80), .int (nI sp_80), .int (nI he_80), .int (to_80), .int (va_80), .ref mc, .ref ml, .ref mn, .int (nI se), .ref mk, .ref mg, .ref mh, .ref mq, .int (tn)])), (mt, .inl (E.2.1 1, 160, .inl (by_))), (mp, .inl (E.2.1 1, 43, .inl (pg))), (mc, .inl (E.2.1 1, 9, .inl (cf))), (ml, .inl (E.2.1 1, 35, .inl (lf)))]) rfl ?_
          refine v_st (st' := []) rfl ?_
          refine v_aload_n (pc := 83) 1 dX5_readLine_83 rfl rfl ?_
          refine gf_801 (pc := 84) 0 dX5_readLine_84 rfl rfl ?_
          refine v_if_le (pc := 87) 91 dX5_readLine_87 (by decide) (fun c_87 => ?_) (fun c_87 => ?_)
          · skip
            refine v_aload_n (pc := 91) 1 dX5_readLine_91 rfl rfl ?_
            refine v_iload_n (pc := 92) 0 dX5_readLine_92 rfl rfl ?_
            refine v_callV (pc := 93) (rest := []) [0, 1, 2, 3, 4] 0 lk_916 (c_X5_readMore l E m0 ma mp mt mc ml mn mk mg mh mq nt pp 0 tl se th rn ro ((to) + (if (nmI tok by_ he sq) = 0 then 1 else 0)) wt hn ho fa bk_80 ba_80 to_80 va_80 tn sp_80 he_80 by_ sq (nmI tok by_ he sq) s cf lf pg h_tl h_b hf80_0 h_sq (x_in c_14) (fun _ => Nat.lt_of_le_of_ne h_gs.2.2.2.2.2.2.1 (fun q => c_37 (by rw [h_pr.2.2.2.2.2.1, q]; rfl))) h_pr h_gs h_cf h_lf) dX5_readLine_93 rfl rfl (Nat.le_of_ble_eq_true rfl) (by decide) rfl rfl rfl (by decide) rfl (by rintro _ _ ⟨_, _, _, _, _, _, _, _, _, _, _, _, _, _, rfl, _⟩; rfl) ?_
            rintro _ _ ⟨bk_93, ba_93, sp_93, he_93, to_93, va_93, wt_93, hn_93, ho_93, rn_93, ro_93, pg_93, r_93, rfl, rfl, hf93_0, hf93_1, hf93_2⟩
            refine v_w (ws' := [(m0, .inr (5, [.ref ma, .int (nI nt), .int (nI pp), .int (th), .ref mp, .int (rn_93), .int (ro_93), .int (((to) + (if (nmI tok by_ he sq) = 0 then 1 else 0))), .int (wt_93), .int (hn_93), .int (ho_93), .ref mt, .int (nI tl), .int (fa), .int (bk_93), .int (ba_93), .int (nI sp_93), .int (nI he_93), .int (to_93), .int (va_93), .ref mc, .ref ml, .ref mn, .int (nI se), .ref mk, .ref mg, .ref mh, .ref mq, .int (tn)])), (mt, .inl (E.2.1 1, 160, .inl (by_))), (mp, .inl (E.2.1 1, 43, .inl (pg_93))), (mc, .inl (E.2.1 1, 9, .inl (cf))), (ml, .inl (E.2.1 1, 35, .inl (lf)))]) rfl ?_
            refine v_st (st' := []) rfl ?_
            refine v_aload_n (pc := 96) 1 dX5_readLine_96 rfl rfl ?_
            refine gf_801 (pc := 97) 0 dX5_readLine_97 rfl rfl ?_
            refine v_if_ne (pc := 100) 116 dX5_readLine_100 (by decide) (fun c_100 => ?_) (fun c_100 => ?_)
            · skip
              refine v_aload_n (pc := 116) 1 dX5_readLine_116 rfl rfl ?_
              refine v_callV (pc := 117) (rest := []) [0] 0 lk_891 (cB_X5_step l E m0 ma mp mt mc ml mn mk mg mh mq nt pp tl se th rn_93 ro_93 ((to) + (if (nmI tok by_ he sq) = 0 then 1 else 0)) wt_93 hn_93 ho_93 fa bk_93 ba_93 (nI sp_93) (nI he_93) to_93 va_93 tn (by first | exact c_100 | exact hf93_0.pos.resolve_left c_100 | decide)) dX5_readLine_117 rfl rfl (Nat.le_of_ble_eq_true rfl) (by decide) rfl rfl rfl (by decide) rfl (Rt.len rfl) (Rt.go ?_)
              refine v_w (ws' := [(m0, .inr (5, [.ref ma, .int (nI nt), .int (nI pp), .int (th), .ref mp, .int (rn_93), .int (ro_93), .int (((to) + (if (nmI tok by_ he sq) = 0 then 1 else 0))), .int (wt_93), .int (hn_93), .int (ho_93), .ref mt, .int (nI tl), .int (fa), .int (bk_93), .int (ba_93), .int ((nI sp_93)), .int ((nI he_93)), .int (to_93), .int (va_93), .ref mc, .ref ml, .ref mn, .int (nI se), .ref mk, .ref mg, .ref mh, .ref mq, .int (tn)])), (mt, .inl (E.2.1 1, 160, .inl (by_))), (mp, .inl (E.2.1 1, 43, .inl (pg_93))), (mc, .inl (E.2.1 1, 9, .inl (cf))), (ml, .inl (E.2.1 1, 35, .inl (lf)))]) rfl ?_
              refine v_st (st' := []) rfl ?_
              refine v_vret (pc := 120) dX5_readLine_120 rfl ⟨rfl, rfl⟩ ⟨(bk_93), (ba_93), (sp_93), (he_93), (to_93), (va_93), (wt_93), (hn_93), (ho_93), (rn_93), (ro_93), (pg_93), (((to) + (if (nmI tok by_ he sq) = 0 then 1 else 0))), ?_, rfl, ?_, ?_⟩
              · skip
                rfl
              · skip
                have hX := x_in c_14
                have hLC : lnC by_ tl tok he sq s = mlC by_ tl sq (nmI tok by_ he sq) s := lnC_X.1.trans (lnX_ml hX (fun q => absurd q c_46) (fun _ => Nat.lt_of_le_of_ne h_gs.2.2.2.2.2.2.1 (fun q => c_37 (by rw [h_pr.2.2.2.2.2.1, q]; rfl))))
                have hA : lnC by_ tl tok he sq s = andT by_ tl r_93 (clK by_ tl r_93.2) := hLC.trans hf93_1
                rw [hA]; exact (hf93_0.stay _ c_100).1
              · skip
                have hX := x_in c_14
                have hLC : lnC by_ tl tok he sq s = mlC by_ tl sq (nmI tok by_ he sq) s := lnC_X.1.trans (lnX_ml hX (fun q => absurd q c_46) (fun _ => Nat.lt_of_le_of_ne h_gs.2.2.2.2.2.2.1 (fun q => c_37 (by rw [h_pr.2.2.2.2.2.1, q]; rfl))))
                have hA : lnC by_ tl tok he sq s = andT by_ tl r_93 (clK by_ tl r_93.2) := hLC.trans hf93_1
                intro q; rw [hA] at q; exact absurd q (hf93_0.stay _ c_100).2
            · skip
              refine v_aload_n (pc := 103) 1 dX5_readLine_103 rfl rfl ?_
              refine gf_805 (pc := 104) 0 dX5_readLine_104 rfl rfl ?_
              refine v_iconst (pc := 107) (v := 3) dX5_readLine_107 (by decide) ?_
              refine v_icmp_eq (pc := 108) 116 dX5_readLine_108 (by decide) (fun c_108 => ?_) (fun c_108 => ?_)
              · skip
                refine v_aload_n (pc := 116) 1 dX5_readLine_116 rfl rfl ?_
                refine v_callV (pc := 117) (rest := []) [0, 1] 0 lk_891 (c_X5_step l E m0 ma mp mt mc ml mn mk mg mh mq nt pp tl se th rn_93 ro_93 ((to) + (if (nmI tok by_ he sq) = 0 then 1 else 0)) wt_93 hn_93 ho_93 fa bk_93 ba_93 to_93 va_93 tn he_93 by_ sp_93 h_tl hf93_0.1 (by first | exact c_100 | exact hf93_0.pos.resolve_left c_100 | decide) h_b) dX5_readLine_117 rfl rfl (Nat.le_of_ble_eq_true rfl) (by decide) rfl rfl rfl (by decide) rfl (by rintro _ _ ⟨_, _, _, _, _, _, _, rfl, _⟩; rfl) ?_
                rintro _ _ ⟨bk_117, ba_117, sp_117, he_117, to_117, va_117, rfl, rfl, hf117_0⟩
                refine v_w (ws' := [(m0, .inr (5, [.ref ma, .int (nI nt), .int (nI pp), .int (th), .ref mp, .int (rn_93), .int (ro_93), .int (((to) + (if (nmI tok by_ he sq) = 0 then 1 else 0))), .int (wt_93), .int (hn_93), .int (ho_93), .ref mt, .int (nI tl), .int (fa), .int (bk_117), .int (ba_117), .int (nI sp_117), .int (nI he_117), .int (to_117), .int (va_117), .ref mc, .ref ml, .ref mn, .int (nI se), .ref mk, .ref mg, .ref mh, .ref mq, .int (tn)])), (mt, .inl (E.2.1 1, 160, .inl (by_))), (mp, .inl (E.2.1 1, 43, .inl (pg_93))), (mc, .inl (E.2.1 1, 9, .inl (cf))), (ml, .inl (E.2.1 1, 35, .inl (lf)))]) rfl ?_
                refine v_st (st' := []) rfl ?_
                refine v_vret (pc := 120) dX5_readLine_120 rfl ⟨rfl, rfl⟩ ⟨(bk_117), (ba_117), (sp_117), (he_117), (to_117), (va_117), (wt_93), (hn_93), (ho_93), (rn_93), (ro_93), (pg_93), (((to) + (if (nmI tok by_ he sq) = 0 then 1 else 0))), ?_, rfl, ?_, ?_⟩
                · skip
                  rfl
                · skip
                  have hX := x_in c_14
                  have hLC : lnC by_ tl tok he sq s = mlC by_ tl sq (nmI tok by_ he sq) s := lnC_X.1.trans (lnX_ml hX (fun q => absurd q c_46) (fun _ => Nat.lt_of_le_of_ne h_gs.2.2.2.2.2.2.1 (fun q => c_37 (by rw [h_pr.2.2.2.2.2.1, q]; rfl))))
                  have hA : lnC by_ tl tok he sq s = andT by_ tl r_93 (clK by_ tl r_93.2) := hLC.trans hf93_1
                  obtain ⟨h1, h2, h3, h4, h5, h6, h7⟩ := hf93_0.at c_100
                  have hL : lnC by_ tl tok he sq s = (0, tkN by_ tl r_93.2) := by rw [hA, andT_ok h1 h2]; unfold clK; rw [if_pos (by rw [← h6]; exact c_108)]
                  rw [hL, ← h4]; exact hf117_0
                · skip
                  have hX := x_in c_14
                  have hLC : lnC by_ tl tok he sq s = mlC by_ tl sq (nmI tok by_ he sq) s := lnC_X.1.trans (lnX_ml hX (fun q => absurd q c_46) (fun _ => Nat.lt_of_le_of_ne h_gs.2.2.2.2.2.2.1 (fun q => c_37 (by rw [h_pr.2.2.2.2.2.1, q]; rfl))))
                  have hA : lnC by_ tl tok he sq s = andT by_ tl r_93 (clK by_ tl r_93.2) := hLC.trans hf93_1
                  obtain ⟨h1, h2, h3, h4, h5, h6, h7⟩ := hf93_0.at c_100
                  have hL : lnC by_ tl tok he sq s = (0, tkN by_ tl r_93.2) := by rw [hA, andT_ok h1 h2]; unfold clK; rw [if_pos (by rw [← h6]; exact c_108)]
                  intro _; rw [lnC_X.2]; exact ⟨by rw [h_to]; exact mlP_th hX (fun q => absurd q c_46), hf93_2 h1⟩
              · skip
                refine v_aload_n (pc := 111) 1 dX5_readLine_111 rfl rfl ?_
                refine v_iconst (pc := 112) (v := 2) dX5_readLine_112 (by decide) ?_
                refine v_callV (pc := 113) (rest := []) [0] 0 lk_903 (c_X5_fails l E m0 ma mp mt mc ml mn mk mg mh mq nt pp tl se th rn_93 ro_93 ((to) + (if (nmI tok by_ he sq) = 0 then 1 else 0)) wt_93 hn_93 ho_93 fa bk_93 ba_93 (nI sp_93) (nI he_93) to_93 va_93 tn 2) dX5_readLine_113 rfl rfl (Nat.le_of_ble_eq_true rfl) (by decide) rfl rfl rfl (by decide) rfl (Rt.len rfl) (Rt.go ?_)
                refine v_w (ws' := [(m0, .inr (5, [.ref ma, .int (nI nt), .int (nI pp), .int (th), .ref mp, .int (rn_93), .int (ro_93), .int (((to) + (if (nmI tok by_ he sq) = 0 then 1 else 0))), .int (wt_93), .int (hn_93), .int (ho_93), .ref mt, .int (nI tl), .int (fa), .int (if bk_93 = 0 then 2 else bk_93), .int (if bk_93 = 0 then (nI he_93) else ba_93), .int ((nI sp_93)), .int ((nI he_93)), .int (to_93), .int (va_93), .ref mc, .ref ml, .ref mn, .int (nI se), .ref mk, .ref mg, .ref mh, .ref mq, .int (tn)])), (mt, .inl (E.2.1 1, 160, .inl (by_))), (mp, .inl (E.2.1 1, 43, .inl (pg_93))), (mc, .inl (E.2.1 1, 9, .inl (cf))), (ml, .inl (E.2.1 1, 35, .inl (lf)))]) rfl ?_
                refine v_st (st' := []) rfl ?_
                refine v_w (ws' := [(m0, .inr (5, [.ref ma, .int (nI nt), .int (nI pp), .int (th), .ref mp, .int (rn_93), .int (ro_93), .int (((to) + (if (nmI tok by_ he sq) = 0 then 1 else 0))), .int (wt_93), .int (hn_93), .int (ho_93), .ref mt, .int (nI tl), .int (fa), .int (2), .int (nI he_93), .int ((nI sp_93)), .int ((nI he_93)), .int (to_93), .int (va_93), .ref mc, .ref ml, .ref mn, .int (nI se), .ref mk, .ref mg, .ref mh, .ref mq, .int (tn)])), (mt, .inl (E.2.1 1, 160, .inl (by_))), (mp, .inl (E.2.1 1, 43, .inl (pg_93))), (mc, .inl (E.2.1 1, 9, .inl (cf))), (ml, .inl (E.2.1 1, 35, .inl (lf)))]) (by rw [if_pos c_100, if_pos c_100]) ?_
                refine v_aload_n (pc := 116) 1 dX5_readLine_116 rfl rfl ?_
                refine v_callV (pc := 117) (rest := []) [0] 0 lk_891 (cB_X5_step l E m0 ma mp mt mc ml mn mk mg mh mq nt pp tl se th rn_93 ro_93 ((to) + (if (nmI tok by_ he sq) = 0 then 1 else 0)) wt_93 hn_93 ho_93 fa 2 (nI he_93) (nI sp_93) (nI he_93) to_93 va_93 tn (by first | exact c_100 | exact hf93_0.pos.resolve_left c_100 | decide)) dX5_readLine_117 rfl rfl (Nat.le_of_ble_eq_true rfl) (by decide) rfl rfl rfl (by decide) rfl (Rt.len rfl) (Rt.go ?_)
                refine v_w (ws' := [(m0, .inr (5, [.ref ma, .int (nI nt), .int (nI pp), .int (th), .ref mp, .int (rn_93), .int (ro_93), .int (((to) + (if (nmI tok by_ he sq) = 0 then 1 else 0))), .int (wt_93), .int (hn_93), .int (ho_93), .ref mt, .int (nI tl), .int (fa), .int (2), .int ((nI he_93)), .int ((nI sp_93)), .int ((nI he_93)), .int (to_93), .int (va_93), .ref mc, .ref ml, .ref mn, .int (nI se), .ref mk, .ref mg, .ref mh, .ref mq, .int (tn)])), (mt, .inl (E.2.1 1, 160, .inl (by_))), (mp, .inl (E.2.1 1, 43, .inl (pg_93))), (mc, .inl (E.2.1 1, 9, .inl (cf))), (ml, .inl (E.2.1 1, 35, .inl (lf)))]) rfl ?_
                refine v_st (st' := []) rfl ?_
                refine v_vret (pc := 120) dX5_readLine_120 rfl ⟨rfl, rfl⟩ ⟨(2), ((nI he_93)), (sp_93), (he_93), (to_93), (va_93), (wt_93), (hn_93), (ho_93), (rn_93), (ro_93), (pg_93), (((to) + (if (nmI tok by_ he sq) = 0 then 1 else 0))), ?_, rfl, ?_, ?_⟩
                · skip
                  rfl
                · skip
                  have hX := x_in c_14
                  have hLC : lnC by_ tl tok he sq s = mlC by_ tl sq (nmI tok by_ he sq) s := lnC_X.1.trans (lnX_ml hX (fun q => absurd q c_46) (fun _ => Nat.lt_of_le_of_ne h_gs.2.2.2.2.2.2.1 (fun q => c_37 (by rw [h_pr.2.2.2.2.2.1, q]; rfl))))
                  have hA : lnC by_ tl tok he sq s = andT by_ tl r_93 (clK by_ tl r_93.2) := hLC.trans hf93_1
                  obtain ⟨h1, h2, h3, h4, h5, h6, h7⟩ := hf93_0.at c_100
                  have hL : lnC by_ tl tok he sq s = (2, tkS by_ tl r_93.2) := by rw [hA, andT_ok h1 h2]; unfold clK; rw [if_neg (by rw [← h6]; exact c_108)]
                  rw [hL]; exact Md.bad hf93_0.1 hf93_0.2.1 rfl (by rw [h5]) (by decide)
                · skip
                  have hX := x_in c_14
                  have hLC : lnC by_ tl tok he sq s = mlC by_ tl sq (nmI tok by_ he sq) s := lnC_X.1.trans (lnX_ml hX (fun q => absurd q c_46) (fun _ => Nat.lt_of_le_of_ne h_gs.2.2.2.2.2.2.1 (fun q => c_37 (by rw [h_pr.2.2.2.2.2.1, q]; rfl))))
                  have hA : lnC by_ tl tok he sq s = andT by_ tl r_93 (clK by_ tl r_93.2) := hLC.trans hf93_1
                  obtain ⟨h1, h2, h3, h4, h5, h6, h7⟩ := hf93_0.at c_100
                  have hL : lnC by_ tl tok he sq s = (2, tkS by_ tl r_93.2) := by rw [hA, andT_ok h1 h2]; unfold clK; rw [if_neg (by rw [← h6]; exact c_108)]
                  intro q; rw [hL] at q; exact absurd q (show ¬ (2 : Int32) = 0 by decide)
          · skip
            refine v_vret (pc := 90) dX5_readLine_90 rfl ⟨rfl, rfl⟩ ⟨(bk_80), (ba_80), (sp_80), (he_80), (to_80), (va_80), (wt), (hn), (ho), (rn), (ro), (pg), (((to) + (if (nmI tok by_ he sq) = 0 then 1 else 0))), ?_, rfl, ?_, ?_⟩
            · skip
              rfl
            · skip
              have hX := x_in c_14
              have hLC : lnC by_ tl tok he sq s = mlC by_ tl sq (nmI tok by_ he sq) s := lnC_X.1.trans (lnX_ml hX (fun q => absurd q c_46) (fun _ => Nat.lt_of_le_of_ne h_gs.2.2.2.2.2.2.1 (fun q => c_37 (by rw [h_pr.2.2.2.2.2.1, q]; rfl))))
              have hO : ¬ tkO by_ tl sq = true := fun q => by rw [(hf80_0.2.2.2.1 rfl q).1] at c_87; exact c_87 (by decide)
              obtain ⟨e1, e2⟩ := hf80_0.2.2.2.2.1 rfl hO
              have hL : lnC by_ tl tok he sq s = (1, tkS by_ tl sq) := hLC.trans (ml_tok hX hO)
              rw [hL]; exact Md.bad hf80_0.1 hf80_0.2.1 e1 e2 (by decide)
            · skip
              have hX := x_in c_14
              have hLC : lnC by_ tl tok he sq s = mlC by_ tl sq (nmI tok by_ he sq) s := lnC_X.1.trans (lnX_ml hX (fun q => absurd q c_46) (fun _ => Nat.lt_of_le_of_ne h_gs.2.2.2.2.2.2.1 (fun q => c_37 (by rw [h_pr.2.2.2.2.2.1, q]; rfl))))
              have hO : ¬ tkO by_ tl sq = true := fun q => by rw [(hf80_0.2.2.2.1 rfl q).1] at c_87; exact c_87 (by decide)
              obtain ⟨e1, e2⟩ := hf80_0.2.2.2.2.1 rfl hO
              have hL : lnC by_ tl tok he sq s = (1, tkS by_ tl sq) := hLC.trans (ml_tok hX hO)
              intro q; rw [hL] at q; exact absurd q (show ¬ (1 : Int32) = 0 by decide)
        · skip
          exact absurd (c_25.symm.trans c_46) (by decide)
      · skip
        refine v_aload_n (pc := 40) 1 dX5_readLine_40 rfl rfl ?_
        refine v_iconst (pc := 41) (v := 5) dX5_readLine_41 (by decide) ?_
        refine v_callV (pc := 42) (rest := []) [0] 0 lk_903 (c_X5_fails l E m0 ma mp mt mc ml mn mk mg mh mq nt pp tl se th rn ro to wt hn ho fa bk ba (nI sq) (nI he) tok val tn 5) dX5_readLine_42 rfl rfl (Nat.le_of_ble_eq_true rfl) (by decide) rfl rfl rfl (by decide) rfl (Rt.len rfl) (Rt.go ?_)
        refine v_w (ws' := [(m0, .inr (5, [.ref ma, .int (nI nt), .int (nI pp), .int (th), .ref mp, .int (rn), .int (ro), .int (to), .int (wt), .int (hn), .int (ho), .ref mt, .int (nI tl), .int (fa), .int (if bk = 0 then 5 else bk), .int (if bk = 0 then (nI he) else ba), .int ((nI sq)), .int ((nI he)), .int (tok), .int (val), .ref mc, .ref ml, .ref mn, .int (nI se), .ref mk, .ref mg, .ref mh, .ref mq, .int (tn)])), (mt, .inl (E.2.1 1, 160, .inl (by_))), (mp, .inl (E.2.1 1, 43, .inl (pg))), (mc, .inl (E.2.1 1, 9, .inl (cf))), (ml, .inl (E.2.1 1, 35, .inl (lf)))]) rfl ?_
        refine v_st (st' := []) rfl ?_
        refine v_w (ws' := [(m0, .inr (5, [.ref ma, .int (nI nt), .int (nI pp), .int (th), .ref mp, .int (rn), .int (ro), .int (to), .int (wt), .int (hn), .int (ho), .ref mt, .int (nI tl), .int (fa), .int (5), .int (nI he), .int ((nI sq)), .int ((nI he)), .int (tok), .int (val), .ref mc, .ref ml, .ref mn, .int (nI se), .ref mk, .ref mg, .ref mh, .ref mq, .int (tn)])), (mt, .inl (E.2.1 1, 160, .inl (by_))), (mp, .inl (E.2.1 1, 43, .inl (pg))), (mc, .inl (E.2.1 1, 9, .inl (cf))), (ml, .inl (E.2.1 1, 35, .inl (lf)))]) (by rw [if_pos h_bk, if_pos h_bk]) ?_
        refine v_iload_n (pc := 45) 0 dX5_readLine_45 rfl rfl ?_
        refine v_if_ne (pc := 46) 61 dX5_readLine_46 (by decide) (fun c_46 => ?_) (fun c_46 => ?_)
        · skip
          refine v_aload_n (pc := 61) 1 dX5_readLine_61 rfl rfl ?_
          refine v_dup (pc := 62) dX5_readLine_62 rfl ?_
          refine gf_794 (pc := 63) 0 dX5_readLine_63 rfl rfl ?_
          refine v_iload_n (pc := 66) 0 dX5_readLine_66 rfl rfl ?_
          suffices J_67 : V l E RX5 cX5_readLine 2 (Option.none : Option Jvm.ClassFile.FieldType) "readLine" ({ frames := 6, cells := 0, slots := 0, locals := 135 }) [(m0, .inr (5, [.ref ma, .int (nI nt), .int (nI pp), .int (th), .ref mp, .int (rn), .int (ro), .int (to), .int (wt), .int (hn), .int (ho), .ref mt, .int (nI tl), .int (fa), .int (bk), .int (ba), .int (nI sq), .int (nI he), .int (tok), .int (val), .ref mc, .ref ml, .ref mn, .int (nI se), .ref mk, .ref mg, .ref mh, .ref mq, .int (tn)])), (mt, .inl (E.2.1 1, 160, .inl (by_))), (mp, .inl (E.2.1 1, 43, .inl (pg))), (mc, .inl (E.2.1 1, 9, .inl (cf))), (ml, .inl (E.2.1 1, 35, .inl (lf)))] 0 0 (fun v wd => ∃ (bk_ : Int32) (ba_ : Int32) (sp_ : Nat) (he_ : Nat) (to_ : Int32) (va_ : Int32) (wt_ : Int32) (hn_ : Int32) (ho_ : Int32) (rn_ : Int32) (ro_ : Int32) (pg_ : Nat → Int32) (tc_ : Int32), v = none ∧ wd = [(m0, .inr (5, [.ref ma, .int (nI nt), .int (nI pp), .int (th), .ref mp, .int (rn_), .int (ro_), .int (tc_), .int (wt_), .int (hn_), .int (ho_), .ref mt, .int (nI tl), .int (fa), .int (bk_), .int (ba_), .int (nI sp_), .int (nI he_), .int (to_), .int (va_), .ref mc, .ref ml, .ref mn, .int (nI se), .ref mk, .ref mg, .ref mh, .ref mq, .int (tn)])), (mt, .inl (E.2.1 1, 160, .inl (by_))), (mp, .inl (E.2.1 1, 43, .inl (pg_))), (mc, .inl (E.2.1 1, 9, .inl (cf))), (ml, .inl (E.2.1 1, 35, .inl (lf)))] ∧ (Md by_ tl (lnC by_ tl tok he sq s) bk_ ba_ sp_ he_ to_ va_) ∧ ((lnC by_ tl tok he sq s).1 = 0 → tc_ = (lnP by_ tl tok he sq s).th ∧ PRm (lnP by_ tl tok he sq s) wt_ hn_ ho_ rn_ ro_ pg_)) 0 0 75 [(1, .int (nmI tok by_ he sq)), (0, .ref m0)] [.int (if (nmI tok by_ he sq) = 0 then 1 else 0), .int (to), .ref m0] [(m0, .inr (5, [.ref ma, .int (nI nt), .int (nI pp), .int (th), .ref mp, .int (rn), .int (ro), .int (to), .int (wt), .int (hn), .int (ho), .ref mt, .int (nI tl), .int (fa), .int (5), .int (nI he), .int ((nI sq)), .int ((nI he)), .int (tok), .int (val), .ref mc, .ref ml, .ref mn, .int (nI se), .ref mk, .ref mg, .ref mh, .ref mq, .int (tn)])), (mt, .inl (E.2.1 1, 160, .inl (by_))), (mp, .inl (E.2.1 1, 43, .inl (pg))), (mc, .inl (E.2.1 1, 9, .inl (cf))), (ml, .inl (E.2.1 1, 35, .inl (lf)))] by
            refine v_if_ne (pc := 67) 74 dX5_readLine_67 (by decide) (fun c_67 => ?_) (fun c_67 => ?_)
            · skip
              refine v_iconst (pc := 74) (v := 0) dX5_readLine_74 (by decide) ?_
              refine v_st ?_ J_67
              rw [if_neg (show ¬ ((nmI tok by_ he sq) = 0) from c_67)]
            · skip
              refine v_iconst (pc := 70) (v := 1) dX5_readLine_70 (by decide) ?_
              refine v_goto (pc := 71) 75 dX5_readLine_71 (by decide) ?_
              refine v_st ?_ J_67
              rw [if_pos (show (nmI tok by_ he sq) = 0 from c_67)]
          refine v_iadd (pc := 75) dX5_readLine_75 ?_
          refine pf_794 (pc := 76) (ws' := [(m0, .inr (5, [.ref ma, .int (nI nt), .int (nI pp), .int (th), .ref mp, .int (rn), .int (ro), .int ((to) + (if (nmI tok by_ he sq) = 0 then 1 else 0)), .int (wt), .int (hn), .int (ho), .ref mt, .int (nI tl), .int (fa), .int (5), .int (nI he), .int ((nI sq)), .int ((nI he)), .int (tok), .int (val), .ref mc, .ref ml, .ref mn, .int (nI se), .ref mk, .ref mg, .ref mh, .ref mq, .int (tn)])), (mt, .inl (E.2.1 1, 160, .inl (by_))), (mp, .inl (E.2.1 1, 43, .inl (pg))), (mc, .inl (E.2.1 1, 9, .inl (cf))), (ml, .inl (E.2.1 1, 35, .inl (lf)))]) 0 dX5_readLine_76 rfl rfl rfl (Nat.le_of_ble_eq_true rfl) rfl ?_
          refine v_aload_n (pc := 79) 1 dX5_readLine_79 rfl rfl ?_
          refine v_callV (pc := 80) (rest := []) [0] 0 lk_891 (cB_X5_step l E m0 ma mp mt mc ml mn mk mg mh mq nt pp tl se th rn ro ((to) + (if (nmI tok by_ he sq) = 0 then 1 else 0)) wt hn ho fa 5 (nI he) (nI sq) (nI he) tok val tn (by first | exact h_bk | decide)) dX5_readLine_80 rfl rfl (Nat.le_of_ble_eq_true rfl) (by decide) rfl rfl rfl (by decide) rfl (Rt.len rfl) (Rt.go ?_)
          refine v_w (ws' := [(m0, .inr (5, [.ref ma, .int (nI nt), .int (nI pp), .int (th), .ref mp, .int (rn), .int (ro), .int (((to) + (if (nmI tok by_ he sq) = 0 then 1 else 0))), .int (wt), .int (hn), .int (ho), .ref mt, .int (nI tl), .int (fa), .int (5), .int ((nI he)), .int ((nI sq)), .int ((nI he)), .int (tok), .int (val), .ref mc, .ref ml, .ref mn, .int (nI se), .ref mk, .ref mg, .ref mh, .ref mq, .int (tn)])), (mt, .inl (E.2.1 1, 160, .inl (by_))), (mp, .inl (E.2.1 1, 43, .inl (pg))), (mc, .inl (E.2.1 1, 9, .inl (cf))), (ml, .inl (E.2.1 1, 35, .inl (lf)))]) rfl ?_
          refine v_st (st' := []) rfl ?_
          refine v_aload_n (pc := 83) 1 dX5_readLine_83 rfl rfl ?_
          refine gf_801 (pc := 84) 0 dX5_readLine_84 rfl rfl ?_
          refine v_if_le (pc := 87) 91 dX5_readLine_87 (by decide) (fun c => absurd c (by decide)) (fun _ => ?_)
          refine v_vret (pc := 90) dX5_readLine_90 rfl ⟨rfl, rfl⟩ ⟨(5), ((nI he)), (sq), (he), (tok), (val), (wt), (hn), (ho), (rn), (ro), (pg), (((to) + (if (nmI tok by_ he sq) = 0 then 1 else 0))), ?_, rfl, ?_, ?_⟩
          · skip
            rfl
          · skip
            have hL : lnC by_ tl tok he sq s = (5, he) := by rw [lnC_X.1, c_25]; show lnRule by_ tl sq he s.rl s.tN = _; unfold lnRule; rw [if_neg (fun q => by have z := h_pr.2.2.2.2.2.1; rw [c_37] at z; have := (nI_inj (a := 8) (by decide) (by omega)).mp z; omega)]
            rw [hL]; exact Md.bad h_sq h_he (by rfl) (by rfl) (by decide)
          · skip
            have hL : lnC by_ tl tok he sq s = (5, he) := by rw [lnC_X.1, c_25]; show lnRule by_ tl sq he s.rl s.tN = _; unfold lnRule; rw [if_neg (fun q => by have z := h_pr.2.2.2.2.2.1; rw [c_37] at z; have := (nI_inj (a := 8) (by decide) (by omega)).mp z; omega)]
            intro q; rw [hL] at q; exact absurd q (show ¬ (5 : Int32) = 0 by decide)
        · skip
          exact absurd (c_25.symm.trans c_46) (by decide)
  · skip
    refine v_aload_n (pc := 17) 1 dX5_readLine_17 rfl rfl ?_
    refine v_iconst (pc := 18) (v := 2) dX5_readLine_18 (by decide) ?_
    refine v_callV (pc := 19) (rest := []) [0] 0 lk_903 (c_X5_fails l E m0 ma mp mt mc ml mn mk mg mh mq nt pp tl se th rn ro to wt hn ho fa bk ba (nI sq) (nI he) tok val tn 2) dX5_readLine_19 rfl rfl (Nat.le_of_ble_eq_true rfl) (by decide) rfl rfl rfl (by decide) rfl (Rt.len rfl) (Rt.go ?_)
    refine v_w (ws' := [(m0, .inr (5, [.ref ma, .int (nI nt), .int (nI pp), .int (th), .ref mp, .int (rn), .int (ro), .int (to), .int (wt), .int (hn), .int (ho), .ref mt, .int (nI tl), .int (fa), .int (if bk = 0 then 2 else bk), .int (if bk = 0 then (nI he) else ba), .int ((nI sq)), .int ((nI he)), .int (tok), .int (val), .ref mc, .ref ml, .ref mn, .int (nI se), .ref mk, .ref mg, .ref mh, .ref mq, .int (tn)])), (mt, .inl (E.2.1 1, 160, .inl (by_))), (mp, .inl (E.2.1 1, 43, .inl (pg))), (mc, .inl (E.2.1 1, 9, .inl (cf))), (ml, .inl (E.2.1 1, 35, .inl (lf)))]) rfl ?_
    refine v_st (st' := []) rfl ?_
    refine v_vret (pc := 22) dX5_readLine_22 rfl ⟨rfl, rfl⟩ ⟨(if bk = 0 then 2 else bk), (if bk = 0 then (nI he) else ba), (sq), (he), (tok), (val), (wt), (hn), (ho), (rn), (ro), (pg), (to), ?_, rfl, ?_, ?_⟩
    · skip
      rfl
    · skip
      have hL : lnC by_ tl tok he sq s = (2, he) := by rw [lnC_X.1]; exact lnX_out c_14
      rw [hL]; exact Md.bad h_sq h_he (by rw [if_pos h_bk]) (by rw [if_pos h_bk]) (by decide)
    · skip
      have hL : lnC by_ tl tok he sq s = (2, he) := by rw [lnC_X.1]; exact lnX_out c_14
      intro q; rw [hL] at q; exact absurd q (show ¬ (2 : Int32) = 0 by decide)
