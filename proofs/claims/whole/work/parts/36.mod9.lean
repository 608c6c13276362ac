/-! the model's rule -/
section NM
variable {tk : Int32} {b : Nat → Int32} {sa nx : Nat}
theorem nmI_eq : nmI tk b sa nx = if nmB tk b sa nx 0 = true then 0 else if nmB tk b sa nx 1 = true then 1 else if nmB tk b sa nx 3 = true then 2 else if nmB tk b sa nx 4 = true then 3 else if nmB tk b sa nx 5 = true then 4 else if nmB tk b sa nx 6 = true then 5 else if nmB tk b sa nx 7 = true then 6 else if nmB tk b sa nx 2 = true then 7 else -4 := rfl
theorem nm_len {i : Nat} (h : nmB tk b sa nx i = true) : nx - sa = lenS.getD i 0 := by
  unfold nmB at h
  rw [Bool.and_eq_true, decide_eq_true_eq] at h
  exact h.1.2
theorem nm_ne {i j : Nat} (h : nmB tk b sa nx i = true) (hl : ¬ lenS.getD i 0 = lenS.getD j 0) : ¬ nmB tk b sa nx j = true := fun q => hl ((nm_len h).symm.trans (nm_len q))
theorem nmI_7 : nmI tk b sa nx = 7 ↔ nmB tk b sa nx 2 = true := by
  rw [nmI_eq]
  constructor
  · intro h
    repeat' split at h
    all_goals first | assumption | exact absurd h (by decide)
  · intro h
    rw [if_neg (nm_ne h (by decide)), if_neg (nm_ne h (by decide)), if_neg (nm_ne h (by decide)), if_neg (nm_ne h (by decide)), if_neg (nm_ne h (by decide)), if_neg (nm_ne h (by decide)), if_neg (nm_ne h (by decide)), if_pos h]
end NM
def rcC (b : Nat → Int32) (n p : Nat) (nn : Int32) : Int32 × Nat := ckN b n p 0 3 (ckA b n (tkN b n p) 0 (rlR b n p nn).1)
def rc1 (b : Nat → Int32) (n p : Nat) : Int32 × Nat := othR b n (0, p) 0 3 0
def rc2 (b : Nat → Int32) (n p : Nat) : Int32 × Nat := othR b n (rc1 b n p) 0 5 0
theorem bt_0 (v : Int32) : bt1 0 v = 0 := by
  unfold bt1
  rw [Int32.zero_shiftRight]; rfl
theorem ck_oth {b : Nat → Int32} {n p : Nat} {lo hi : Int32} {k : Int32 × Nat} : ckN b n p lo hi k = if (othR b n (0, p) lo hi 0).1 = 0 then k else othR b n (0, p) lo hi 0 := by
  by_cases hO : tkO b n p = true
  · by_cases h5 : nuC b n p lo hi = 0
    · rw [oth_ok (r := (0, p)) rfl hO h5 (show ¬ bt1 0 (tkV b n p 0) = 1 by rw [bt_0]; decide), if_pos rfl]
      unfold ckN ckT; rw [if_pos hO, if_pos h5]
    · rw [oth_num (r := (0, p)) rfl hO h5, if_neg h5]
      unfold ckN ckT; rw [if_pos hO, if_neg h5]
  · have e : othR b n (0, p) lo hi 0 = (1, tkS b n p) := by unfold othR andT; rw [if_pos rfl, ckT_no hO]
    rw [e, ckN_t hO, if_neg (show ¬ (1 : Int32) = 0 by decide)]
theorem ckA_oth {b : Nat → Int32} {n p : Nat} {so : Int32} {k : Int32 × Nat} : ckA b n p so k = if (othR b n (0, p) 0 5 so).1 = 0 then k else othR b n (0, p) 0 5 so := by
  by_cases hO : tkO b n p = true
  · by_cases h5 : nuC b n p 0 5 = 0
    · have e : ckA b n p so k = if bt1 so (tkV b n p 0) = 0 then k else (4, tkS b n p) := by unfold ckA ckN ckT; rw [if_pos hO, if_pos h5]
      rw [e]
      by_cases h6 : bt1 so (tkV b n p 0) = 1
      · rw [oth_bit (r := (0, p)) rfl hO h5 h6, if_neg (show ¬ (4 : Int32) = 0 by decide), if_neg (show ¬ bt1 so (tkV b n p 0) = 0 by rw [h6]; decide)]
      · rw [oth_ok (r := (0, p)) rfl hO h5 h6, if_pos rfl, if_pos ((bt_01 _ _).resolve_right h6)]
    · rw [oth_num (r := (0, p)) rfl hO h5, if_neg h5]
      unfold ckA ckN ckT; rw [if_pos hO, if_neg h5]
  · have e : othR b n (0, p) 0 5 so = (1, tkS b n p) := by unfold othR andT; rw [if_pos rfl, ckT_no hO]
    rw [e, ckA_t hO, if_neg (show ¬ (1 : Int32) = 0 by decide)]
theorem oth_stay {b : Nat → Int32} {n : Nat} {r : Int32 × Nat} {lo hi so : Int32} (h : ¬ r.1 = 0) : othR b n r lo hi so = r := by unfold othR andT; rw [if_neg h]
theorem pr0 {r : Int32 × Nat} (h : r.1 = 0) : r = (0, r.2) := by rw [← h]
theorem rc_ok {b : Nat → Int32} {n p : Nat} {nn : Int32} (hp : p ≤ n) (h : (rc2 b n p).1 = 0) : rcC b n p nn = (rlR b n p nn).1 ∧ rlR b n p nn = rlX b n (rc2 b n p).2 0 0 0 (sb nn (tkV b n (tkN b n p) 0)) ∧ othV b n (0, p) 0 3 0 = tkV b n p 0 ∧ othV b n (rc1 b n p) 0 5 0 = tkV b n (tkN b n p) 0 ∧ Wd 6 (tkV b n (tkN b n p) 0) := by
  obtain ⟨h1, hO, h5, -, e, ev⟩ := othR_ok h
  obtain ⟨-, hO1, h51, -, e1, ev1⟩ := othR_ok (r := (0, p)) h1
  have e1' : rc1 b n p = (0, tkN b n p) := e1
  have e2 : rc2 b n p = (0, tkN b n (tkN b n p)) := by unfold rc2; rw [e, e1']
  have hp2 := (tkN_b (b := b) hp).2
  have hp3 := (tkN_b (b := b) hp2).2
  refine ⟨?_, ?_, ev1, ?_, ?_⟩
  · unfold rcC
    rw [ck_oth, show othR b n (0, p) 0 3 0 = rc1 b n p from rfl, if_pos h1, ckA_oth]
    have : othR b n (0, tkN b n p) 0 5 0 = rc2 b n p := by unfold rc2; rw [e1']
    rw [this, if_pos h]
  · unfold rlR
    rw [rlX_of (k := n + 1) hp3 _ _ _ _ (by omega), e2]; rfl
  · rw [ev, e1']
  · rw [e1'] at h5; exact nu_W h5
theorem rc_no {b : Nat → Int32} {n p : Nat} {nn : Int32} (h : ¬ (rc2 b n p).1 = 0) : rcC b n p nn = rc2 b n p := by
  unfold rcC
  rw [ck_oth]
  by_cases h1 : (rc1 b n p).1 = 0
  · rw [show othR b n (0, p) 0 3 0 = rc1 b n p from rfl, if_pos h1, ckA_oth]
    obtain ⟨-, -, -, -, e1, -⟩ := othR_ok (r := (0, p)) h1
    have : othR b n (0, tkN b n p) 0 5 0 = rc2 b n p := by unfold rc2 rc1; rw [e1]
    rw [this, if_neg h]
  · have : rc2 b n p = rc1 b n p := oth_stay h1
    rw [show othR b n (0, p) 0 3 0 = rc1 b n p from rfl, if_neg h1, this]
/-- what is known between the loop's rounds -/
def RI (b : Nat → Int32) (n p : Nat) (nn0 : Int32) (r : Int32 × Nat) (nd br bn nn hn : Int32) : Prop :=
  (r.1 = 0 → rcC b n p nn0 = (rlR b n p nn0).1 ∧ rlR b n p nn0 = rlX b n r.2 nd br bn nn ∧ hn = hib nn ∧ Wd 64 nn ∧ Wd 64 br ∧ othV b n (0, p) 0 3 0 = tkV b n p 0 ∧ othV b n (rc1 b n p) 0 5 0 = tkV b n (tkN b n p) 0) ∧ (¬ r.1 = 0 → rcC b n p nn0 = r)
theorem RI_ini {b : Nat → Int32} {n p : Nat} {nn0 hn : Int32} (hp : p ≤ n) (hw : Wd 64 nn0) (hh : hn = hib nn0) : RI b n p nn0 (rc2 b n p) 0 0 0 (sb nn0 (tkV b n (tkN b n p) 0)) (if othV b n (rc1 b n p) 0 5 0 ≤ hn then hn else othV b n (rc1 b n p) 0 5 0) := by
  refine ⟨fun h => ?_, fun h => rc_no h⟩
  obtain ⟨a1, a2, a3, a4, a5⟩ := rc_ok (nn := nn0) hp h
  exact ⟨a1, a2, by rw [a4, hh, hib_set hw a5], (Wd.sb hw a5).1, ⟨0, by decide, rfl⟩, a3, a4⟩
theorem RI_note {b : Nat → Int32} {n p : Nat} {nn0 : Int32} {r : Int32 × Nat} {nd br bn nn hn so : Int32} (hr : r.1 = 0 → r.2 ≤ n) (h : RI b n p nn0 r nd br bn nn hn) (hso : so = nd ||| br) (h2 : r.1 = 0 → ¬ (tkK b n r.2 = 3 ∧ (bn = 0 ∨ ¬ br = 0))) (h3 : r.1 = 0 → ¬ (nmB (tkK b n r.2) b (tkS b n r.2) (tkN b n r.2) 2 = true ∧ bn = 0)) :
    RI b n p nn0 (othR b n r 0 5 so) (if bn = 0 then sb nd (othV b n r 0 5 so) else nd) (if bn = 0 then br else sb br (othV b n r 0 5 so)) bn (sb nn (tkV b n r.2 0)) (if othV b n r 0 5 so ≤ hn then hn else othV b n r 0 5 so) := by
  by_cases h1 : r.1 = 0
  · obtain ⟨a1, a2, a3, a4, a5, a6, a7⟩ := h.1 h1
    have hx := rx_note (b := b) (n := n) (nn := nn) (hr h1) hso (h2 h1) (h3 h1)
    have hrr := pr0 h1
    refine ⟨fun q => ?_, fun q => ?_⟩
    · obtain ⟨-, hO, h5, -, e, ev⟩ := othR_ok q
      have hv := nu_W h5
      rw [ev]
      have hx1 := hx.1 (by rw [← hrr]; exact q)
      refine ⟨a1, ?_, by rw [a3, hib_set a4 hv], (Wd.sb a4 hv).1, ?_, a6, a7⟩
      · rw [a2, hx1, e]
        by_cases hb : bn = 0
        · rw [if_pos hb, if_pos hb, if_pos hb]
        · rw [if_neg hb, if_neg hb, if_neg hb]
      · by_cases hb : bn = 0
        · rw [if_pos hb]; exact a5
        · rw [if_neg hb]; exact (Wd.sb a5 hv).1
    · rw [a1, a2]
      have hx2 := hx.2 (by rw [← hrr]; exact q)
      rw [hx2, ← hrr]
  · have e : othR b n r 0 5 so = r := oth_stay h1
    rw [e]
    exact ⟨fun q => absurd q h1, fun q => h.2 q⟩
/-- at the end: what the closing sign's check will say -/
theorem RI_end {b : Nat → Int32} {n p : Nat} {nn0 : Int32} {r : Int32 × Nat} {nd br bn nn hn : Int32} (hr : r.1 = 0 → r.2 ≤ n) (h : RI b n p nn0 r nd br bn nn hn) (h1 : r.1 = 0 → ¬ (tkO b n r.2 = true ∧ tkK b n r.2 = 2)) (h2 : r.1 = 0 → ¬ (tkO b n r.2 = true ∧ nmB (tkK b n r.2) b (tkS b n r.2) (tkN b n r.2) 2 = true ∧ bn = 0)) (h3 : r.1 = 0 → bn = 0 ∨ ¬ br = 0) :
    rcC b n p nn0 = andT b n r (clK b n r.2) ∧ (r.1 = 0 → (rlR b n p nn0).2 = (nd, br, nn) ∧ hn = hib nn ∧ othV b n (0, p) 0 3 0 = tkV b n p 0 ∧ othV b n (rc1 b n p) 0 5 0 = tkV b n (tkN b n p) 0) := by
  by_cases e : r.1 = 0
  · obtain ⟨a1, a2, a3, a4, a5, a6, a7⟩ := h.1 e
    have hx := rx_end (b := b) (n := n) (nd := nd) (nn := nn) (hr e) (h1 e) (h2 e) (h3 e)
    have hrr := pr0 e
    refine ⟨?_, fun _ => ⟨by rw [a2, hx], a3, a6, a7⟩⟩
    rw [a1, a2, hx, ← hrr]
  · refine ⟨?_, fun q => absurd q e⟩
    rw [h.2 e]
    unfold andT
    rw [if_neg e]
theorem othV_in3 {b : Nat → Int32} {n : Nat} {r : Int32 × Nat} {so : Int32} : Wd 4 (othV b n r 0 3 so) := by
  unfold othV
  split
  · rename_i h; exact nu_W4 (othR_ok h).2.2.1
  · exact ⟨0, by decide, rfl⟩
def rulP (b : Nat → Int32) (n p rl : Nat) (nn : Int32) (pg g : Nat → Int32) : Prop := ∀ j, g j = if j = 38 then nI (rl + 1) else if j = 6 + 4 * rl then tkV b n p 0 else if j = 6 + 4 * rl + 1 then tkV b n (tkN b n p) 0 else if j = 6 + 4 * rl + 2 then (rlR b n p nn).2.1 else if j = 6 + 4 * rl + 3 then (rlR b n p nn).2.2.1 else pg j
theorem rul_of {b : Nat → Int32} {n p rl : Nat} {nn v1 v2 nd br nn2 x : Int32} {pg g : Nat → Int32} (h : QP (6 + 4 * rl) v1 v2 nd br pg g) (h1 : v1 = tkV b n p 0) (h2 : v2 = tkV b n (tkN b n p) 0) (h3 : (rlR b n p nn).2 = (nd, br, nn2)) (hx : x = nI (rl + 1)) : rulP b n p rl nn pg (upd g 38 x) := by
  intro j
  simp only [upd]
  split
  · rw [hx]
  · rw [h j, h1, h2, h3]
theorem c_X5_readRule (l : Launch) (E : VE) (m0 : Nat) (ma : Nat) (mp : Nat) (mt : Nat) (mc : Nat) (ml : Nat) (mn : Nat) (mk : Nat) (mg : Nat) (mh : Nat) (mq : Nat) (nt : Nat) (pp : Nat) (rl : Nat) (tl : Nat) (se : Nat) (th : Int32) (rn : Int32) (ro : Int32) (to : Int32) (wt : Int32) (hn : Int32) (ho : Int32) (fa : Int32) (bk : Int32) (ba : Int32) (tok : Int32) (val : Int32) (tn : Int32) (sq : Nat) (he : Nat) (by_ : Nat → Int32) (p : Nat) (nn : Int32) (cf : Nat → Int32) (lf : Nat → Int32) (pg : Nat → Int32) (h_tl : tl ≤ 160) (h_b : ∀ j, ¬ by_ j = -4) (h_md : Md by_ tl (0, p) bk ba sq he tok val) (h_p : p ≤ tl) (h_38 : pg 38 = nI rl) (h_rl8 : rl < 8) (h_hn : hn = hib nn) (h_nn : Wd 64 nn) (h_cf : ∀ k, k < 9 → cf k = nI (cutT.getD k 0)) (h_lf : ∀ k, k < 35 → lf k = letT.getD k 0) : Ct l E yX5_readRule cX5_readRule 2 (Option.none : Option Jvm.ClassFile.FieldType) 4 92 0 0 [.ref m0] [(m0, .inr (5, [.ref ma, .int (nI nt), .int (nI pp), .int (th), .ref mp, .int (rn), .int (ro), .int (to), .int (wt), .int (hn), .int (ho), .ref mt, .int (nI tl), .int (fa), .int (bk), .int (ba), .int (nI sq), .int (nI he), .int (tok), .int (val), .ref mc, .ref ml, .ref mn, .int (nI se), .ref mk, .ref mg, .ref mh, .ref mq, .int (tn)])), (mt, .inl (E.2.1 1, 160, .inl (by_))), (mp, .inl (E.2.1 1, 43, .inl (pg))), (mc, .inl (E.2.1 1, 9, .inl (cf))), (ml, .inl (E.2.1 1, 35, .inl (lf)))] (fun v wd => ∃ (bk_ : Int32) (ba_ : Int32) (sp_ : Nat) (he_ : Nat) (to_ : Int32) (va_ : Int32) (hn_ : Int32) (ho_ : Int32) (pg_ : Nat → Int32) (r_ : Int32 × Nat), v = none ∧ wd = [(m0, .inr (5, [.ref ma, .int (nI nt), .int (nI pp), .int (th), .ref mp, .int (rn), .int (ro), .int (to), .int (wt), .int (hn_), .int (ho_), .ref mt, .int (nI tl), .int (fa), .int (bk_), .int (ba_), .int (nI sp_), .int (nI he_), .int (to_), .int (va_), .ref mc, .ref ml, .ref mn, .int (nI se), .ref mk, .ref mg, .ref mh, .ref mq, .int (tn)])), (mt, .inl (E.2.1 1, 160, .inl (by_))), (mp, .inl (E.2.1 1, 43, .inl (pg_))), (mc, .inl (E.2.1 1, 9, .inl (cf))), (ml, .inl (E.2.1 1, 35, .inl (lf)))] ∧ (Md by_ tl r_ bk_ ba_ sp_ he_ to_ va_) ∧ (rcC by_ tl p nn = andT by_ tl r_ (clK by_ tl r_.2)) ∧ (r_.1 = 0 → hn_ = hib (rlR by_ tl p nn).2.2.2 ∧ ho_ = (if tkV by_ tl p 0 ≤ ho then ho else tkV by_ tl p 0) ∧ rulP by_ tl p rl nn pg pg_) ∧ (r_.1 = 0 → Wd 6 (tkV by_ tl p 0))) := by
  refine Ct.of (own := RX5) (nm := "readRule") (lv := [(0, .ref m0)]) (by decide) rfl rfl (Nat.le_of_ble_eq_true rfl) rfl ?_
  refine v_bipush (pc := 0) (v := 6) dX5_readRule_0 (by decide) ?_
  refine v_iconst (pc := 2) (v := 4) dX5_readRule_2 (by decide) ?_
  refine v_aload_n (pc := 3) 0 dX5_readRule_3 rfl rfl ?_
  refine gf_791 (pc := 4) 0 dX5_readRule_4 rfl rfl ?_
  refine v_bipush (pc := 7) (v := 38) dX5_readRule_7 (by decide) ?_
  refine v_ialdN (pc := 9) 2 1 (38) dX5_readRule_9 rfl rfl rfl (by decide) (by decide) ?_
  refine v_st (st' := [.int (nI rl), .int (4), .int (6)]) (by rw [h_38]) ?_
  refine v_imul (pc := 10) dX5_readRule_10 ?_
  refine v_st (st' := [.int (nI (4 * rl)), .int (6)]) (congrArg (fun z => Value.int z :: _) (pk_mul 4 rl)) ?_
  refine v_iadd (pc := 11) dX5_readRule_11 ?_
  refine v_st (st' := [.int (nI (6 + (4 * rl)))]) (congrArg (fun z => Value.int z :: _) (nI_add 6 (4 * rl))) ?_
  refine v_st (st' := [.int (nI (6 + 4 * rl))]) rfl ?_
  refine v_istore_n (pc := 12) (lv' := [(1, .int (nI (6 + 4 * rl))), (0, .ref m0)]) dX5_readRule_12 rfl (by decide) rfl ?_
  refine v_aload_n (pc := 13) 1 dX5_readRule_13 rfl rfl ?_
  refine gf_791 (pc := 14) 0 dX5_readRule_14 rfl rfl ?_
  refine v_iload_n (pc := 17) 0 dX5_readRule_17 rfl rfl ?_
  refine v_aload_n (pc := 18) 1 dX5_readRule_18 rfl rfl ?_
  refine v_iconst (pc := 19) (v := 0) dX5_readRule_19 (by decide) ?_
  refine v_callV (pc := 20) (rest := [.int (nI (6 + 4 * rl)), .ref mp]) [0, 1] 0 lk_924 (c_X5_oneHere l E m0 ma mp mt mc ml mn mk mg mh mq nt pp tl se th rn ro to wt hn ho fa bk ba tok val tn sq he by_ ((0, p)) 0 h_tl h_b h_md) dX5_readRule_20 rfl rfl (Nat.le_of_ble_eq_true rfl) (by decide) rfl rfl rfl (by decide) rfl (by rintro _ _ ⟨_, _, _, _, _, _, _, rfl, _⟩; rfl) ?_
  rintro _ _ ⟨bk_20, ba_20, sp_20, he_20, to_20, va_20, rfl, rfl, hf20_0⟩
  refine v_w (ws' := [(m0, .inr (5, [.ref ma, .int (nI nt), .int (nI pp), .int (th), .ref mp, .int (rn), .int (ro), .int (to), .int (wt), .int (hn), .int (if (othV by_ tl ((0, p)) 0 3 0) ≤ (ho) then ho else othV by_ tl ((0, p)) 0 3 0), .ref mt, .int (nI tl), .int (fa), .int (bk_20), .int (ba_20), .int (nI sp_20), .int (nI he_20), .int (to_20), .int (va_20), .ref mc, .ref ml, .ref mn, .int (nI se), .ref mk, .ref mg, .ref mh, .ref mq, .int (tn)])), (mt, .inl (E.2.1 1, 160, .inl (by_))), (mp, .inl (E.2.1 1, 43, .inl (pg))), (mc, .inl (E.2.1 1, 9, .inl (cf))), (ml, .inl (E.2.1 1, 35, .inl (lf)))]) rfl ?_
  refine v_st (st' := [.int (othV by_ tl ((0, p)) 0 3 0), .int (nI (6 + 4 * rl)), .ref mp]) rfl ?_
  refine v_iastN (pc := 23) (ws' := [(m0, .inr (5, [.ref ma, .int (nI nt), .int (nI pp), .int (th), .ref mp, .int (rn), .int (ro), .int (to), .int (wt), .int (hn), .int (if (othV by_ tl ((0, p)) 0 3 0) ≤ (ho) then ho else othV by_ tl ((0, p)) 0 3 0), .ref mt, .int (nI tl), .int (fa), .int (bk_20), .int (ba_20), .int (nI sp_20), .int (nI he_20), .int (to_20), .int (va_20), .ref mc, .ref ml, .ref mn, .int (nI se), .ref mk, .ref mg, .ref mh, .ref mq, .int (tn)])), (mt, .inl (E.2.1 1, 160, .inl (by_))), (mp, .inl (E.2.1 1, 43, .inl (upd (pg) (6 + 4 * rl) (othV by_ tl ((0, p)) 0 3 0)))), (mc, .inl (E.2.1 1, 9, .inl (cf))), (ml, .inl (E.2.1 1, 35, .inl (lf)))]) 2 1 (6 + 4 * rl) dX5_readRule_23 rfl rfl rfl (by omega) (by decide) rfl ?_
  refine v_aload_n (pc := 24) 1 dX5_readRule_24 rfl rfl ?_
  refine gf_791 (pc := 25) 0 dX5_readRule_25 rfl rfl ?_
  refine v_iload_n (pc := 28) 0 dX5_readRule_28 rfl rfl ?_
  refine v_iconst (pc := 29) (v := 1) dX5_readRule_29 (by decide) ?_
  refine v_iadd (pc := 30) dX5_readRule_30 ?_
  refine v_st (st' := [.int (nI ((6 + 4 * rl) + 1)), .ref mp]) (congrArg (fun z => Value.int z :: _) (nI_add (6 + 4 * rl) 1)) ?_
  refine v_aload_n (pc := 31) 1 dX5_readRule_31 rfl rfl ?_
  refine v_iconst (pc := 32) (v := 0) dX5_readRule_32 (by decide) ?_
  refine v_callV (pc := 33) (rest := [.int (nI ((6 + 4 * rl) + 1)), .ref mp]) [0, 1] 0 lk_932 (c_X5_noteHere l E m0 ma mp mt mc ml mn mk mg mh mq nt pp tl se th rn ro to wt hn (if (othV by_ tl ((0, p)) 0 3 0) ≤ (ho) then ho else othV by_ tl ((0, p)) 0 3 0) fa bk_20 ba_20 to_20 va_20 tn sp_20 he_20 by_ (rc1 by_ tl p) 0 h_tl h_b hf20_0) dX5_readRule_33 rfl rfl (Nat.le_of_ble_eq_true rfl) (by decide) rfl rfl rfl (by decide) rfl (by rintro _ _ ⟨_, _, _, _, _, _, _, rfl, _⟩; rfl) ?_
  rintro _ _ ⟨bk_33, ba_33, sp_33, he_33, to_33, va_33, rfl, rfl, hf33_0⟩
  refine v_w (ws' := [(m0, .inr (5, [.ref ma, .int (nI nt), .int (nI pp), .int (th), .ref mp, .int (rn), .int (ro), .int (to), .int (wt), .int (if (othV by_ tl (rc1 by_ tl p) 0 5 0) ≤ (hn) then hn else othV by_ tl (rc1 by_ tl p) 0 5 0), .int ((if (othV by_ tl ((0, p)) 0 3 0) ≤ (ho) then ho else othV by_ tl ((0, p)) 0 3 0)), .ref mt, .int (nI tl), .int (fa), .int (bk_33), .int (ba_33), .int (nI sp_33), .int (nI he_33), .int (to_33), .int (va_33), .ref mc, .ref ml, .ref mn, .int (nI se), .ref mk, .ref mg, .ref mh, .ref mq, .int (tn)])), (mt, .inl (E.2.1 1, 160, .inl (by_))), (mp, .inl (E.2.1 1, 43, .inl (upd (pg) (6 + 4 * rl) (othV by_ tl ((0, p)) 0 3 0)))), (mc, .inl (E.2.1 1, 9, .inl (cf))), (ml, .inl (E.2.1 1, 35, .inl (lf)))]) rfl ?_
  refine v_st (st' := [.int (othV by_ tl (rc1 by_ tl p) 0 5 0), .int (nI ((6 + 4 * rl) + 1)), .ref mp]) rfl ?_
  refine v_iastN (pc := 36) (ws' := [(m0, .inr (5, [.ref ma, .int (nI nt), .int (nI pp), .int (th), .ref mp, .int (rn), .int (ro), .int (to), .int (wt), .int (if (othV by_ tl (rc1 by_ tl p) 0 5 0) ≤ (hn) then hn else othV by_ tl (rc1 by_ tl p) 0 5 0), .int ((if (othV by_ tl ((0, p)) 0 3 0) ≤ (ho) then ho else othV by_ tl ((0, p)) 0 3 0)), .ref mt, .int (nI tl), .int (fa), .int (bk_33), .int (ba_33), .int (nI sp_33), .int (nI he_33), .int (to_33), .int (va_33), .ref mc, .ref ml, .ref mn, .int (nI se), .ref mk, .ref mg, .ref mh, .ref mq, .int (tn)])), (mt, .inl (E.2.1 1, 160, .inl (by_))), (mp, .inl (E.2.1 1, 43, .inl (upd (upd (pg) (6 + 4 * rl) (othV by_ tl ((0, p)) 0 3 0)) ((6 + 4 * rl) + 1) (othV by_ tl (rc1 by_ tl p) 0 5 0)))), (mc, .inl (E.2.1 1, 9, .inl (cf))), (ml, .inl (E.2.1 1, 35, .inl (lf)))]) 2 1 ((6 + 4 * rl) + 1) dX5_readRule_36 rfl rfl rfl (by omega) (by decide) rfl ?_
  refine v_aload_n (pc := 37) 1 dX5_readRule_37 rfl rfl ?_
  refine gf_791 (pc := 38) 0 dX5_readRule_38 rfl rfl ?_
  refine v_iload_n (pc := 41) 0 dX5_readRule_41 rfl rfl ?_
  refine v_iconst (pc := 42) (v := 2) dX5_readRule_42 (by decide) ?_
  refine v_iadd (pc := 43) dX5_readRule_43 ?_
  refine v_st (st' := [.int (nI ((6 + 4 * rl) + 2)), .ref mp]) (congrArg (fun z => Value.int z :: _) (nI_add (6 + 4 * rl) 2)) ?_
  refine v_iconst (pc := 44) (v := 0) dX5_readRule_44 (by decide) ?_
  refine v_iastN (pc := 45) (ws' := [(m0, .inr (5, [.ref ma, .int (nI nt), .int (nI pp), .int (th), .ref mp, .int (rn), .int (ro), .int (to), .int (wt), .int (if (othV by_ tl (rc1 by_ tl p) 0 5 0) ≤ (hn) then hn else othV by_ tl (rc1 by_ tl p) 0 5 0), .int ((if (othV by_ tl ((0, p)) 0 3 0) ≤ (ho) then ho else othV by_ tl ((0, p)) 0 3 0)), .ref mt, .int (nI tl), .int (fa), .int (bk_33), .int (ba_33), .int (nI sp_33), .int (nI he_33), .int (to_33), .int (va_33), .ref mc, .ref ml, .ref mn, .int (nI se), .ref mk, .ref mg, .ref mh, .ref mq, .int (tn)])), (mt, .inl (E.2.1 1, 160, .inl (by_))), (mp, .inl (E.2.1 1, 43, .inl (upd (upd (upd (pg) (6 + 4 * rl) (othV by_ tl ((0, p)) 0 3 0)) ((6 + 4 * rl) + 1) (othV by_ tl (rc1 by_ tl p) 0 5 0)) ((6 + 4 * rl) + 2) (0)))), (mc, .inl (E.2.1 1, 9, .inl (cf))), (ml, .inl (E.2.1 1, 35, .inl (lf)))]) 2 1 ((6 + 4 * rl) + 2) dX5_readRule_45 rfl rfl rfl (by omega) (by decide) rfl ?_
  refine v_aload_n (pc := 46) 1 dX5_readRule_46 rfl rfl ?_
  refine gf_791 (pc := 47) 0 dX5_readRule_47 rfl rfl ?_
  refine v_iload_n (pc := 50) 0 dX5_readRule_50 rfl rfl ?_
  refine v_iconst (pc := 51) (v := 3) dX5_readRule_51 (by decide) ?_
  refine v_iadd (pc := 52) dX5_readRule_52 ?_
  refine v_st (st' := [.int (nI ((6 + 4 * rl) + 3)), .ref mp]) (congrArg (fun z => Value.int z :: _) (nI_add (6 + 4 * rl) 3)) ?_
  refine v_iconst (pc := 53) (v := 0) dX5_readRule_53 (by decide) ?_
  refine v_iastN (pc := 54) (ws' := [(m0, .inr (5, [.ref ma, .int (nI nt), .int (nI pp), .int (th), .ref mp, .int (rn), .int (ro), .int (to), .int (wt), .int (if (othV by_ tl (rc1 by_ tl p) 0 5 0) ≤ (hn) then hn else othV by_ tl (rc1 by_ tl p) 0 5 0), .int ((if (othV by_ tl ((0, p)) 0 3 0) ≤ (ho) then ho else othV by_ tl ((0, p)) 0 3 0)), .ref mt, .int (nI tl), .int (fa), .int (bk_33), .int (ba_33), .int (nI sp_33), .int (nI he_33), .int (to_33), .int (va_33), .ref mc, .ref ml, .ref mn, .int (nI se), .ref mk, .ref mg, .ref mh, .ref mq, .int (tn)])), (mt, .inl (E.2.1 1, 160, .inl (by_))), (mp, .inl (E.2.1 1, 43, .inl (upd (upd (upd (upd (pg) (6 + 4 * rl) (othV by_ tl ((0, p)) 0 3 0)) ((6 + 4 * rl) + 1) (othV by_ tl (rc1 by_ tl p) 0 5 0)) ((6 + 4 * rl) + 2) (0)) ((6 + 4 * rl) + 3) (0)))), (mc, .inl (E.2.1 1, 9, .inl (cf))), (ml, .inl (E.2.1 1, 35, .inl (lf)))]) 2 1 ((6 + 4 * rl) + 3) dX5_readRule_54 rfl rfl rfl (by omega) (by decide) rfl ?_
  have loop_55 : ∀ (D_55 : Nat) (bk1 : Int32) (ba1 : Int32) (sq1 : Nat) (he1 : Nat) (tok1 : Int32) (val1 : Int32) (hn1 : Int32) (pg1 : Nat → Int32) (r1 : Int32 × Nat) (nd1 : Int32) (nn1 : Int32), mes tl r1 < D_55 → (Md by_ tl r1 bk1 ba1 sq1 he1 tok1 val1) → (RI by_ tl p nn r1 nd1 0 0 nn1 hn1) → (QP (6 + 4 * rl) (othV by_ tl (0, p) 0 3 0) (othV by_ tl (rc1 by_ tl p) 0 5 0) nd1 0 pg pg1) → V l E RX5 cX5_readRule 2 (Option.none : Option Jvm.ClassFile.FieldType) "readRule" ({ frames := 4, cells := 0, slots := 0, locals := 92 }) [(m0, .inr (5, [.ref ma, .int (nI nt), .int (nI pp), .int (th), .ref mp, .int (rn), .int (ro), .int (to), .int (wt), .int (hn), .int (ho), .ref mt, .int (nI tl), .int (fa), .int (bk), .int (ba), .int (nI sq), .int (nI he), .int (tok), .int (val), .ref mc, .ref ml, .ref mn, .int (nI se), .ref mk, .ref mg, .ref mh, .ref mq, .int (tn)])), (mt, .inl (E.2.1 1, 160, .inl (by_))), (mp, .inl (E.2.1 1, 43, .inl (pg))), (mc, .inl (E.2.1 1, 9, .inl (cf))), (ml, .inl (E.2.1 1, 35, .inl (lf)))] 0 0 (fun v wd => ∃ (bk_ : Int32) (ba_ : Int32) (sp_ : Nat) (he_ : Nat) (to_ : Int32) (va_ : Int32) (hn_ : Int32) (ho_ : Int32) (pg_ : Nat → Int32) (r_ : Int32 × Nat), v = none ∧ wd = [(m0, .inr (5, [.ref ma, .int (nI nt), .int (nI pp), .int (th), .ref mp, .int (rn), .int (ro), .int (to), .int (wt), .int (hn_), .int (ho_), .ref mt, .int (nI tl), .int (fa), .int (bk_), .int (ba_), .int (nI sp_), .int (nI he_), .int (to_), .int (va_), .ref mc, .ref ml, .ref mn, .int (nI se), .ref mk, .ref mg, .ref mh, .ref mq, .int (tn)])), (mt, .inl (E.2.1 1, 160, .inl (by_))), (mp, .inl (E.2.1 1, 43, .inl (pg_))), (mc, .inl (E.2.1 1, 9, .inl (cf))), (ml, .inl (E.2.1 1, 35, .inl (lf)))] ∧ (Md by_ tl r_ bk_ ba_ sp_ he_ to_ va_) ∧ (rcC by_ tl p nn = andT by_ tl r_ (clK by_ tl r_.2)) ∧ (r_.1 = 0 → hn_ = hib (rlR by_ tl p nn).2.2.2 ∧ ho_ = (if tkV by_ tl p 0 ≤ ho then ho else tkV by_ tl p 0) ∧ rulP by_ tl p rl nn pg pg_) ∧ (r_.1 = 0 → Wd 6 (tkV by_ tl p 0))) 0 0 55 [(1, .int (nI (6 + 4 * rl))), (0, .ref m0)] [] [(m0, .inr (5, [.ref ma, .int (nI nt), .int (nI pp), .int (th), .ref mp, .int (rn), .int (ro), .int (to), .int (wt), .int (hn1), .int ((if (othV by_ tl ((0, p)) 0 3 0) ≤ (ho) then ho else othV by_ tl ((0, p)) 0 3 0)), .ref mt, .int (nI tl), .int (fa), .int (bk1), .int (ba1), .int (nI sq1), .int (nI he1), .int (tok1), .int (val1), .ref mc, .ref ml, .ref mn, .int (nI se), .ref mk, .ref mg, .ref mh, .ref mq, .int (tn)])), (mt, .inl (E.2.1 1, 160, .inl (by_))), (mp, .inl (E.2.1 1, 43, .inl (pg1))), (mc, .inl (E.2.1 1, 9, .inl (cf))), (ml, .inl (E.2.1 1, 35, .inl (lf)))] := by
    intro D_55
    induction D_55 with
    | zero => intro bk1 ba1 sq1 he1 tok1 val1 hn1 pg1 r1 nd1 nn1 h; exact absurd h (Nat.not_lt_zero _)
    | succ D_55 ih_55 =>
      intro bk1 ba1 sq1 he1 tok1 val1 hn1 pg1 r1 nd1 nn1 hmu_55 h_55_0 h_55_1 h_55_2
      refine v_aload_n (pc := 55) 1 dX5_readRule_55 rfl rfl ?_
      refine v_callV (pc := 56) (rest := []) [0] 0 lk_936 (c_X5_isNumber l E m0 ma mp mt mc ml mn mk mg mh mq nt pp tl se th rn ro to wt hn1 (if (othV by_ tl ((0, p)) 0 3 0) ≤ (ho) then ho else othV by_ tl ((0, p)) 0 3 0) fa bk1 ba1 (nI sq1) (nI he1) tok1 val1 tn) dX5_readRule_56 rfl rfl (Nat.le_of_ble_eq_true rfl) (by decide) rfl rfl rfl (by decide) rfl (Rt.len rfl) (Rt.go ?_)
      refine v_w (ws' := [(m0, .inr (5, [.ref ma, .int (nI nt), .int (nI pp), .int (th), .ref mp, .int (rn), .int (ro), .int (to), .int (wt), .int (hn1), .int ((if (othV by_ tl ((0, p)) 0 3 0) ≤ (ho) then ho else othV by_ tl ((0, p)) 0 3 0)), .ref mt, .int (nI tl), .int (fa), .int (bk1), .int (ba1), .int ((nI sq1)), .int ((nI he1)), .int (tok1), .int (val1), .ref mc, .ref ml, .ref mn, .int (nI se), .ref mk, .ref mg, .ref mh, .ref mq, .int (tn)])), (mt, .inl (E.2.1 1, 160, .inl (by_))), (mp, .inl (E.2.1 1, 43, .inl (pg1))), (mc, .inl (E.2.1 1, 9, .inl (cf))), (ml, .inl (E.2.1 1, 35, .inl (lf)))]) rfl ?_
      refine v_st (st' := [.int (if bk1 = 0 ∧ tok1 = 2 then 1 else 0)]) rfl ?_
      refine v_ifB_eq (pc := 59) 90 dX5_readRule_59 (by decide) (fun c_59 => ?_) (fun c_59 => ?_)
      · skip
        refine v_aload_n (pc := 90) 1 dX5_readRule_90 rfl rfl ?_
        refine gf_801 (pc := 91) 0 dX5_readRule_91 rfl rfl ?_
        refine v_if_ne (pc := 94) 151 dX5_readRule_94 (by decide) (fun c_94 => ?_) (fun c_94 => ?_)
        · skip
          refine v_aload_n (pc := 151) 1 dX5_readRule_151 rfl rfl ?_
          refine gf_791 (pc := 152) 0 dX5_readRule_152 rfl rfl ?_
          refine v_bipush (pc := 155) (v := 38) dX5_readRule_155 (by decide) ?_
          refine v_dup2 (pc := 157) dX5_readRule_157 rfl rfl ?_
          refine v_ialdN (pc := 158) 2 1 (38) dX5_readRule_158 rfl rfl rfl (by decide) (by decide) ?_
          refine v_st (st' := [.int (nI rl), .int (38), .ref mp]) (by rw [QP_38 h_55_2 (by omega), h_38]) ?_
          refine v_iconst (pc := 159) (v := 1) dX5_readRule_159 (by decide) ?_
          refine v_iadd (pc := 160) dX5_readRule_160 ?_
          refine v_st (st' := [.int (nI (rl + 1)), .int (38), .ref mp]) (congrArg (fun z => Value.int z :: _) (nI_add rl 1)) ?_
          refine v_iastN (pc := 161) (ws' := [(m0, .inr (5, [.ref ma, .int (nI nt), .int (nI pp), .int (th), .ref mp, .int (rn), .int (ro), .int (to), .int (wt), .int (hn1), .int ((if (othV by_ tl ((0, p)) 0 3 0) ≤ (ho) then ho else othV by_ tl ((0, p)) 0 3 0)), .ref mt, .int (nI tl), .int (fa), .int (bk1), .int (ba1), .int ((nI sq1)), .int ((nI he1)), .int (tok1), .int (val1), .ref mc, .ref ml, .ref mn, .int (nI se), .ref mk, .ref mg, .ref mh, .ref mq, .int (tn)])), (mt, .inl (E.2.1 1, 160, .inl (by_))), (mp, .inl (E.2.1 1, 43, .inl (upd (pg1) (38) (nI (rl + 1))))), (mc, .inl (E.2.1 1, 9, .inl (cf))), (ml, .inl (E.2.1 1, 35, .inl (lf)))]) 2 1 (38) dX5_readRule_161 rfl rfl rfl (by decide) (by decide) rfl ?_
          refine v_vret (pc := 162) dX5_readRule_162 rfl ⟨rfl, rfl⟩ ⟨(bk1), (ba1), (sq1), (he1), (tok1), (val1), (hn1), ((if (othV by_ tl ((0, p)) 0 3 0) ≤ (ho) then ho else othV by_ tl ((0, p)) 0 3 0)), (upd (pg1) (38) (nI (rl + 1))), (r1), ?_, rfl, ?_, ?_, ?_, ?_⟩
          · skip
            rfl
          · skip
            exact h_55_0
          · skip
            exact (RI_end (h_55_0.2.2.1) h_55_1 (fun q z => c_94 (h_55_0.2.2.2.1 q z.1).1) (fun q z => c_94 (h_55_0.2.2.2.1 q z.1).1) (fun _ => Or.inl rfl)).1
          · skip
            intro q
            obtain ⟨e1, e2, e3, e4⟩ := (RI_end (h_55_0.2.2.1) h_55_1 (fun q z => c_94 (h_55_0.2.2.2.1 q z.1).1) (fun q z => c_94 (h_55_0.2.2.2.1 q z.1).1) (fun _ => Or.inl rfl)).2 q
            exact ⟨by rw [e1]; exact e2, by rw [show othV by_ tl (0, p) 0 3 0 = tkV by_ tl p 0 from e3], rul_of h_55_2 e3 e4 e1 rfl⟩
          · skip
            intro q
            rw [← ((RI_end (h_55_0.2.2.1) h_55_1 (fun q z => c_94 (h_55_0.2.2.2.1 q z.1).1) (fun q z => c_94 (h_55_0.2.2.2.1 q z.1).1) (fun _ => Or.inl rfl)).2 q).2.2.1]
            obtain ⟨y, hy, e⟩ := othV_in3 (b := by_) (n := tl) (r := (0, p)) (so := 0)
            exact ⟨y, by omega, e⟩
        · skip
          have hat := h_55_0.at c_94
          refine v_aload_n (pc := 97) 1 dX5_readRule_97 rfl rfl ?_
          refine v_callV (pc := 98) (rest := []) [0, 1, 3, 4] 0 lk_911 (c_X5_nameHere l E m0 ma mp mt mc ml mn mk mg mh mq nt pp tl se th rn ro to wt hn1 (if (othV by_ tl ((0, p)) 0 3 0) ≤ (ho) then ho else othV by_ tl ((0, p)) 0 3 0) fa bk1 ba1 tok1 val1 tn sq1 he1 by_ cf lf h_tl h_55_0.1 h_55_0.2.1 h_cf h_lf) dX5_readRule_98 rfl rfl (Nat.le_of_ble_eq_true rfl) (by decide) rfl rfl rfl (by decide) rfl (Rt.len rfl) (Rt.go ?_)
          refine v_w (ws' := [(m0, .inr (5, [.ref ma, .int (nI nt), .int (nI pp), .int (th), .ref mp, .int (rn), .int (ro), .int (to), .int (wt), .int (hn1), .int ((if (othV by_ tl ((0, p)) 0 3 0) ≤ (ho) then ho else othV by_ tl ((0, p)) 0 3 0)), .ref mt, .int (nI tl), .int (fa), .int (bk1), .int (ba1), .int (nI sq1), .int (nI he1), .int (tok1), .int (val1), .ref mc, .ref ml, .ref mn, .int (nI se), .ref mk, .ref mg, .ref mh, .ref mq, .int (tn)])), (mt, .inl (E.2.1 1, 160, .inl (by_))), (mp, .inl (E.2.1 1, 43, .inl (pg1))), (mc, .inl (E.2.1 1, 9, .inl (cf))), (ml, .inl (E.2.1 1, 35, .inl (lf)))]) rfl ?_
          refine v_st (st' := [.int (nmI tok1 by_ he1 sq1)]) rfl ?_
          refine v_bipush (pc := 101) (v := 7) dX5_readRule_101 (by decide) ?_
          refine v_icmp_ne (pc := 103) 151 dX5_readRule_103 (by decide) (fun c_103 => ?_) (fun c_103 => ?_)
          · skip
            refine v_aload_n (pc := 151) 1 dX5_readRule_151 rfl rfl ?_
            refine gf_791 (pc := 152) 0 dX5_readRule_152 rfl rfl ?_
            refine v_bipush (pc := 155) (v := 38) dX5_readRule_155 (by decide) ?_
            refine v_dup2 (pc := 157) dX5_readRule_157 rfl rfl ?_
            refine v_ialdN (pc := 158) 2 1 (38) dX5_readRule_158 rfl rfl rfl (by decide) (by decide) ?_
            refine v_st (st' := [.int (nI rl), .int (38), .ref mp]) (by rw [QP_38 h_55_2 (by omega), h_38]) ?_
            refine v_iconst (pc := 159) (v := 1) dX5_readRule_159 (by decide) ?_
            refine v_iadd (pc := 160) dX5_readRule_160 ?_
            refine v_st (st' := [.int (nI (rl + 1)), .int (38), .ref mp]) (congrArg (fun z => Value.int z :: _) (nI_add rl 1)) ?_
            refine v_iastN (pc := 161) (ws' := [(m0, .inr (5, [.ref ma, .int (nI nt), .int (nI pp), .int (th), .ref mp, .int (rn), .int (ro), .int (to), .int (wt), .int (hn1), .int ((if (othV by_ tl ((0, p)) 0 3 0) ≤ (ho) then ho else othV by_ tl ((0, p)) 0 3 0)), .ref mt, .int (nI tl), .int (fa), .int (bk1), .int (ba1), .int (nI sq1), .int (nI he1), .int (tok1), .int (val1), .ref mc, .ref ml, .ref mn, .int (nI se), .ref mk, .ref mg, .ref mh, .ref mq, .int (tn)])), (mt, .inl (E.2.1 1, 160, .inl (by_))), (mp, .inl (E.2.1 1, 43, .inl (upd (pg1) (38) (nI (rl + 1))))), (mc, .inl (E.2.1 1, 9, .inl (cf))), (ml, .inl (E.2.1 1, 35, .inl (lf)))]) 2 1 (38) dX5_readRule_161 rfl rfl rfl (by decide) (by decide) rfl ?_
            refine v_vret (pc := 162) dX5_readRule_162 rfl ⟨rfl, rfl⟩ ⟨(bk1), (ba1), (sq1), (he1), (tok1), (val1), (hn1), ((if (othV by_ tl ((0, p)) 0 3 0) ≤ (ho) then ho else othV by_ tl ((0, p)) 0 3 0)), (upd (pg1) (38) (nI (rl + 1))), (r1), ?_, rfl, ?_, ?_, ?_, ?_⟩
            · skip
              rfl
            · skip
              exact h_55_0
            · skip
              exact (RI_end (h_55_0.2.2.1) h_55_1 (fun _ z => c_59 ⟨c_94, hat.2.2.2.2.2.1.trans z.2⟩) (fun _ z => c_103 (nmI_7.mpr (by rw [hat.2.2.2.2.2.1, hat.2.2.2.2.1, hat.2.2.2.1]; exact z.2.1))) (fun _ => Or.inl rfl)).1
            · skip
              intro q
              obtain ⟨e1, e2, e3, e4⟩ := (RI_end (h_55_0.2.2.1) h_55_1 (fun _ z => c_59 ⟨c_94, hat.2.2.2.2.2.1.trans z.2⟩) (fun _ z => c_103 (nmI_7.mpr (by rw [hat.2.2.2.2.2.1, hat.2.2.2.2.1, hat.2.2.2.1]; exact z.2.1))) (fun _ => Or.inl rfl)).2 q
              exact ⟨by rw [e1]; exact e2, by rw [show othV by_ tl (0, p) 0 3 0 = tkV by_ tl p 0 from e3], rul_of h_55_2 e3 e4 e1 rfl⟩
            · skip
              intro q
              rw [← ((RI_end (h_55_0.2.2.1) h_55_1 (fun _ z => c_59 ⟨c_94, hat.2.2.2.2.2.1.trans z.2⟩) (fun _ z => c_103 (nmI_7.mpr (by rw [hat.2.2.2.2.2.1, hat.2.2.2.2.1, hat.2.2.2.1]; exact z.2.1))) (fun _ => Or.inl rfl)).2 q).2.2.1]
              obtain ⟨y, hy, e⟩ := othV_in3 (b := by_) (n := tl) (r := (0, p)) (so := 0)
              exact ⟨y, by omega, e⟩
          · skip
            refine v_aload_n (pc := 106) 1 dX5_readRule_106 rfl rfl ?_
            refine v_callV (pc := 107) (rest := []) [0, 1] 0 lk_891 (c_X5_step l E m0 ma mp mt mc ml mn mk mg mh mq nt pp tl se th rn ro to wt hn1 (if (othV by_ tl ((0, p)) 0 3 0) ≤ (ho) then ho else othV by_ tl ((0, p)) 0 3 0) fa bk1 ba1 tok1 val1 tn he1 by_ sq1 h_tl h_55_0.1 c_94 h_b) dX5_readRule_107 rfl rfl (Nat.le_of_ble_eq_true rfl) (by decide) rfl rfl rfl (by decide) rfl (by rintro _ _ ⟨_, _, _, _, _, _, _, rfl, _⟩; rfl) ?_
            rintro _ _ ⟨bk_107, ba_107, sp_107, he_107, to_107, va_107, rfl, rfl, hf107_0⟩
            refine v_w (ws' := [(m0, .inr (5, [.ref ma, .int (nI nt), .int (nI pp), .int (th), .ref mp, .int (rn), .int (ro), .int (to), .int (wt), .int (hn1), .int ((if (othV by_ tl ((0, p)) 0 3 0) ≤ (ho) then ho else othV by_ tl ((0, p)) 0 3 0)), .ref mt, .int (nI tl), .int (fa), .int (bk_107), .int (ba_107), .int (nI sp_107), .int (nI he_107), .int (to_107), .int (va_107), .ref mc, .ref ml, .ref mn, .int (nI se), .ref mk, .ref mg, .ref mh, .ref mq, .int (tn)])), (mt, .inl (E.2.1 1, 160, .inl (by_))), (mp, .inl (E.2.1 1, 43, .inl (pg1))), (mc, .inl (E.2.1 1, 9, .inl (cf))), (ml, .inl (E.2.1 1, 35, .inl (lf)))]) rfl ?_
            refine v_st (st' := []) rfl ?_
            have loop_110 : ∀ (D_110 : Nat) (bk2 : Int32) (ba2 : Int32) (sq2 : Nat) (he2 : Nat) (tok2 : Int32) (val2 : Int32) (hn2 : Int32) (pg2 : Nat → Int32) (r2 : Int32 × Nat) (br2 : Int32) (nn2 : Int32), mes tl r2 < D_110 → (Md by_ tl r2 bk2 ba2 sq2 he2 tok2 val2) → (RI by_ tl p nn r2 nd1 br2 1 nn2 hn2) → (QP (6 + 4 * rl) (othV by_ tl (0, p) 0 3 0) (othV by_ tl (rc1 by_ tl p) 0 5 0) nd1 br2 pg pg2) → (br2 = 0 ∨ (bk2 = 0 ∧ tok2 = 2)) → V l E RX5 cX5_readRule 2 (Option.none : Option Jvm.ClassFile.FieldType) "readRule" ({ frames := 4, cells := 0, slots := 0, locals := 92 }) [(m0, .inr (5, [.ref ma, .int (nI nt), .int (nI pp), .int (th), .ref mp, .int (rn), .int (ro), .int (to), .int (wt), .int (hn), .int (ho), .ref mt, .int (nI tl), .int (fa), .int (bk), .int (ba), .int (nI sq), .int (nI he), .int (tok), .int (val), .ref mc, .ref ml, .ref mn, .int (nI se), .ref mk, .ref mg, .ref mh, .ref mq, .int (tn)])), (mt, .inl (E.2.1 1, 160, .inl (by_))), (mp, .inl (E.2.1 1, 43, .inl (pg))), (mc, .inl (E.2.1 1, 9, .inl (cf))), (ml, .inl (E.2.1 1, 35, .inl (lf)))] 0 0 (fun v wd => ∃ (bk_ : Int32) (ba_ : Int32) (sp_ : Nat) (he_ : Nat) (to_ : Int32) (va_ : Int32) (hn_ : Int32) (ho_ : Int32) (pg_ : Nat → Int32) (r_ : Int32 × Nat), v = none ∧ wd = [(m0, .inr (5, [.ref ma, .int (nI nt), .int (nI pp), .int (th), .ref mp, .int (rn), .int (ro), .int (to), .int (wt), .int (hn_), .int (ho_), .ref mt, .int (nI tl), .int (fa), .int (bk_), .int (ba_), .int (nI sp_), .int (nI he_), .int (to_), .int (va_), .ref mc, .ref ml, .ref mn, .int (nI se), .ref mk, .ref mg, .ref mh, .ref mq, .int (tn)])), (mt, .inl (E.2.1 1, 160, .inl (by_))), (mp, .inl (E.2.1 1, 43, .inl (pg_))), (mc, .inl (E.2.1 1, 9, .inl (cf))), (ml, .inl (E.2.1 1, 35, .inl (lf)))] ∧ (Md by_ tl r_ bk_ ba_ sp_ he_ to_ va_) ∧ (rcC by_ tl p nn = andT by_ tl r_ (clK by_ tl r_.2)) ∧ (r_.1 = 0 → hn_ = hib (rlR by_ tl p nn).2.2.2 ∧ ho_ = (if tkV by_ tl p 0 ≤ ho then ho else tkV by_ tl p 0) ∧ rulP by_ tl p rl nn pg pg_) ∧ (r_.1 = 0 → Wd 6 (tkV by_ tl p 0))) 0 0 110 [(1, .int (nI (6 + 4 * rl))), (0, .ref m0)] [] [(m0, .inr (5, [.ref ma, .int (nI nt), .int (nI pp), .int (th), .ref mp, .int (rn), .int (ro), .int (to), .int (wt), .int (hn2), .int ((if (othV by_ tl ((0, p)) 0 3 0) ≤ (ho) then ho else othV by_ tl ((0, p)) 0 3 0)), .ref mt, .int (nI tl), .int (fa), .int (bk2), .int (ba2), .int (nI sq2), .int (nI he2), .int (tok2), .int (val2), .ref mc, .ref ml, .ref mn, .int (nI se), .ref mk, .ref mg, .ref mh, .ref mq, .int (tn)])), (mt, .inl (E.2.1 1, 160, .inl (by_))), (mp, .inl (E.2.1 1, 43, .inl (pg2))), (mc, .inl (E.2.1 1, 9, .inl (cf))), (ml, .inl (E.2.1 1, 35, .inl (lf)))] := by
              intro D_110
              induction D_110 with
              | zero => intro bk2 ba2 sq2 he2 tok2 val2 hn2 pg2 r2 br2 nn2 h; exact absurd h (Nat.not_lt_zero _)
              | succ D_110 ih_110 =>
                intro bk2 ba2 sq2 he2 tok2 val2 hn2 pg2 r2 br2 nn2 hmu_110 h_110_0 h_110_1 h_110_2 h_110_3
                refine v_aload_n (pc := 110) 1 dX5_readRule_110 rfl rfl ?_
                refine gf_791 (pc := 111) 0 dX5_readRule_111 rfl rfl ?_
                refine v_iload_n (pc := 114) 0 dX5_readRule_114 rfl rfl ?_
                refine v_iconst (pc := 115) (v := 3) dX5_readRule_115 (by decide) ?_
                refine v_iadd (pc := 116) dX5_readRule_116 ?_
                refine v_st (st' := [.int (nI ((6 + 4 * rl) + 3)), .ref mp]) (congrArg (fun z => Value.int z :: _) (nI_add (6 + 4 * rl) 3)) ?_
                refine v_dup2 (pc := 117) dX5_readRule_117 rfl rfl ?_
                refine v_ialdN (pc := 118) 2 1 ((6 + 4 * rl) + 3) dX5_readRule_118 rfl rfl rfl (by omega) (by decide) ?_
                refine v_st (st' := [.int (br2), .int (nI ((6 + 4 * rl) + 3)), .ref mp]) (by rw [QP_3 h_110_2]) ?_
                refine v_iconst (pc := 119) (v := 1) dX5_readRule_119 (by decide) ?_
                refine v_aload_n (pc := 120) 1 dX5_readRule_120 rfl rfl ?_
                refine v_aload_n (pc := 121) 1 dX5_readRule_121 rfl rfl ?_
                refine gf_791 (pc := 122) 0 dX5_readRule_122 rfl rfl ?_
                refine v_iload_n (pc := 125) 0 dX5_readRule_125 rfl rfl ?_
                refine v_iconst (pc := 126) (v := 2) dX5_readRule_126 (by decide) ?_
                refine v_iadd (pc := 127) dX5_readRule_127 ?_
                refine v_st (st' := [.int (nI ((6 + 4 * rl) + 2)), .ref mp, .ref m0, .int (1), .int (br2), .int (nI ((6 + 4 * rl) + 3)), .ref mp]) (congrArg (fun z => Value.int z :: _) (nI_add (6 + 4 * rl) 2)) ?_
                refine v_ialdN (pc := 128) 2 1 ((6 + 4 * rl) + 2) dX5_readRule_128 rfl rfl rfl (by omega) (by decide) ?_
                refine v_st (st' := [.int (nd1), .ref m0, .int (1), .int (br2), .int (nI ((6 + 4 * rl) + 3)), .ref mp]) (by rw [QP_2 h_110_2]) ?_
                refine v_aload_n (pc := 129) 1 dX5_readRule_129 rfl rfl ?_
                refine gf_791 (pc := 130) 0 dX5_readRule_130 rfl rfl ?_
                refine v_iload_n (pc := 133) 0 dX5_readRule_133 rfl rfl ?_
                refine v_iconst (pc := 134) (v := 3) dX5_readRule_134 (by decide) ?_
                refine v_iadd (pc := 135) dX5_readRule_135 ?_
                refine v_st (st' := [.int (nI ((6 + 4 * rl) + 3)), .ref mp, .int (nd1), .ref m0, .int (1), .int (br2), .int (nI ((6 + 4 * rl) + 3)), .ref mp]) (congrArg (fun z => Value.int z :: _) (nI_add (6 + 4 * rl) 3)) ?_
                refine v_ialdN (pc := 136) 2 1 ((6 + 4 * rl) + 3) dX5_readRule_136 rfl rfl rfl (by omega) (by decide) ?_
                refine v_st (st' := [.int (br2), .int (nd1), .ref m0, .int (1), .int (br2), .int (nI ((6 + 4 * rl) + 3)), .ref mp]) (by rw [QP_3 h_110_2]) ?_
                refine v_ior (pc := 137) dX5_readRule_137 ?_
                refine v_callV (pc := 138) (rest := [.int (1), .int (br2), .int (nI ((6 + 4 * rl) + 3)), .ref mp]) [0, 1] 0 lk_932 (c_X5_noteHere l E m0 ma mp mt mc ml mn mk mg mh mq nt pp tl se th rn ro to wt hn2 (if (othV by_ tl ((0, p)) 0 3 0) ≤ (ho) then ho else othV by_ tl ((0, p)) 0 3 0) fa bk2 ba2 tok2 val2 tn sq2 he2 by_ r2 ((nd1) ||| (br2)) h_tl h_b h_110_0) dX5_readRule_138 rfl rfl (Nat.le_of_ble_eq_true rfl) (by decide) rfl rfl rfl (by decide) rfl (by rintro _ _ ⟨_, _, _, _, _, _, _, rfl, _⟩; rfl) ?_
                rintro _ _ ⟨bk_138, ba_138, sp_138, he_138, to_138, va_138, rfl, rfl, hf138_0⟩
                refine v_w (ws' := [(m0, .inr (5, [.ref ma, .int (nI nt), .int (nI pp), .int (th), .ref mp, .int (rn), .int (ro), .int (to), .int (wt), .int (if (othV by_ tl r2 0 5 ((nd1) ||| (br2))) ≤ (hn2) then hn2 else othV by_ tl r2 0 5 ((nd1) ||| (br2))), .int ((if (othV by_ tl ((0, p)) 0 3 0) ≤ (ho) then ho else othV by_ tl ((0, p)) 0 3 0)), .ref mt, .int (nI tl), .int (fa), .int (bk_138), .int (ba_138), .int (nI sp_138), .int (nI he_138), .int (to_138), .int (va_138), .ref mc, .ref ml, .ref mn, .int (nI se), .ref mk, .ref mg, .ref mh, .ref mq, .int (tn)])), (mt, .inl (E.2.1 1, 160, .inl (by_))), (mp, .inl (E.2.1 1, 43, .inl (pg2))), (mc, .inl (E.2.1 1, 9, .inl (cf))), (ml, .inl (E.2.1 1, 35, .inl (lf)))]) rfl ?_
                refine v_st (st' := [.int (othV by_ tl r2 0 5 ((nd1) ||| (br2))), .int (1), .int (br2), .int (nI ((6 + 4 * rl) + 3)), .ref mp]) rfl ?_
                refine v_ishl (pc := 141) dX5_readRule_141 ?_
                refine v_ior (pc := 142) dX5_readRule_142 ?_
                refine v_iastN (pc := 143) (ws' := [(m0, .inr (5, [.ref ma, .int (nI nt), .int (nI pp), .int (th), .ref mp, .int (rn), .int (ro), .int (to), .int (wt), .int (if (othV by_ tl r2 0 5 ((nd1) ||| (br2))) ≤ (hn2) then hn2 else othV by_ tl r2 0 5 ((nd1) ||| (br2))), .int ((if (othV by_ tl ((0, p)) 0 3 0) ≤ (ho) then ho else othV by_ tl ((0, p)) 0 3 0)), .ref mt, .int (nI tl), .int (fa), .int (bk_138), .int (ba_138), .int (nI sp_138), .int (nI he_138), .int (to_138), .int (va_138), .ref mc, .ref ml, .ref mn, .int (nI se), .ref mk, .ref mg, .ref mh, .ref mq, .int (tn)])), (mt, .inl (E.2.1 1, 160, .inl (by_))), (mp, .inl (E.2.1 1, 43, .inl (upd (pg2) ((6 + 4 * rl) + 3) ((br2) ||| ((1 : Int32) <<< ((othV by_ tl r2 0 5 ((nd1) ||| (br2))) &&& 31)))))), (mc, .inl (E.2.1 1, 9, .inl (cf))), (ml, .inl (E.2.1 1, 35, .inl (lf)))]) 2 1 ((6 + 4 * rl) + 3) dX5_readRule_143 rfl rfl rfl (by omega) (by decide) rfl ?_
                have hri := RI_note (so := nd1 ||| br2) h_110_0.2.2.1 h_110_1 rfl (fun q z => h_110_3.elim (fun y => z.2.elim (fun x => absurd x (by decide)) (fun x => x y)) (fun y => by have hz := h_110_0.at y.1; rw [← hz.2.2.2.2.2.1, y.2] at z; exact absurd z.1 (by decide))) (fun _ z => absurd z.2 (by decide))
                rw [if_neg (show ¬ (1 : Int32) = 0 by decide), if_neg (show ¬ (1 : Int32) = 0 by decide)] at hri
                have hqp := QP_br (br2 ||| ((1 : Int32) <<< (othV by_ tl r2 0 5 (nd1 ||| br2) &&& 31))) h_110_2
                refine v_aload_n (pc := 144) 1 dX5_readRule_144 rfl rfl ?_
                refine v_callV (pc := 145) (rest := []) [0] 0 lk_936 (c_X5_isNumber l E m0 ma mp mt mc ml mn mk mg mh mq nt pp tl se th rn ro to wt (if (othV by_ tl r2 0 5 ((nd1) ||| (br2))) ≤ (hn2) then hn2 else othV by_ tl r2 0 5 ((nd1) ||| (br2))) (if (othV by_ tl ((0, p)) 0 3 0) ≤ (ho) then ho else othV by_ tl ((0, p)) 0 3 0) fa bk_138 ba_138 (nI sp_138) (nI he_138) to_138 va_138 tn) dX5_readRule_145 rfl rfl (Nat.le_of_ble_eq_true rfl) (by decide) rfl rfl rfl (by decide) rfl (Rt.len rfl) (Rt.go ?_)
                refine v_w (ws' := [(m0, .inr (5, [.ref ma, .int (nI nt), .int (nI pp), .int (th), .ref mp, .int (rn), .int (ro), .int (to), .int (wt), .int ((if (othV by_ tl r2 0 5 ((nd1) ||| (br2))) ≤ (hn2) then hn2 else othV by_ tl r2 0 5 ((nd1) ||| (br2)))), .int ((if (othV by_ tl ((0, p)) 0 3 0) ≤ (ho) then ho else othV by_ tl ((0, p)) 0 3 0)), .ref mt, .int (nI tl), .int (fa), .int (bk_138), .int (ba_138), .int ((nI sp_138)), .int ((nI he_138)), .int (to_138), .int (va_138), .ref mc, .ref ml, .ref mn, .int (nI se), .ref mk, .ref mg, .ref mh, .ref mq, .int (tn)])), (mt, .inl (E.2.1 1, 160, .inl (by_))), (mp, .inl (E.2.1 1, 43, .inl (upd (pg2) ((6 + 4 * rl) + 3) ((br2) ||| ((1 : Int32) <<< ((othV by_ tl r2 0 5 ((nd1) ||| (br2))) &&& 31)))))), (mc, .inl (E.2.1 1, 9, .inl (cf))), (ml, .inl (E.2.1 1, 35, .inl (lf)))]) rfl ?_
                refine v_st (st' := [.int (if bk_138 = 0 ∧ to_138 = 2 then 1 else 0)]) rfl ?_
                refine v_ifB_ne (pc := 148) 110 dX5_readRule_148 (by decide) (fun c_148 => ?_) (fun c_148 => ?_)
                · skip
                  refine v_lv (lv' := [(1, .int (nI (6 + 4 * rl))), (0, .ref m0)]) [0, 1] rfl ?_
                  refine ih_110 bk_138 ba_138 sp_138 he_138 to_138 va_138 (if (othV by_ tl r2 0 5 ((nd1) ||| (br2))) ≤ (hn2) then hn2 else othV by_ tl r2 0 5 ((nd1) ||| (br2))) (upd (pg2) ((6 + 4 * rl) + 3) ((br2) ||| ((1 : Int32) <<< ((othV by_ tl r2 0 5 ((nd1) ||| (br2))) &&& 31)))) (othR by_ tl r2 0 5 (nd1 ||| br2)) (sb br2 (othV by_ tl r2 0 5 (nd1 ||| br2))) (sb nn2 (tkV by_ tl r2.2 0)) (by have := mes_lt (so := nd1 ||| br2) (b := by_) h_110_0.2.2.1 (Or.inl (hf138_0.at c_148.1).1); omega) ?_ ?_ ?_ ?_
                  · exact hf138_0
                  · exact hri
                  · exact hqp
                  · exact Or.inr c_148
                · skip
                  have hbr : (othR by_ tl r2 0 5 (nd1 ||| br2)).1 = 0 → ¬ sb br2 (othV by_ tl r2 0 5 (nd1 ||| br2)) = 0 := by
                    intro q
                    obtain ⟨z1, -, h5, -, -, ev⟩ := othR_ok q
                    rw [ev]; exact (Wd.sb (h_110_1.1 z1).2.2.2.2.1 (nu_W h5)).2
                  have hend := RI_end hf138_0.2.2.1 hri (fun q z => c_148 ⟨(hf138_0.2.2.2.1 q z.1).1, (hf138_0.2.2.2.1 q z.1).2.2.2.1.trans z.2⟩) (fun _ z => absurd z.2.2 (by decide)) (fun q => Or.inr (hbr q))
                  refine v_aload_n (pc := 151) 1 dX5_readRule_151 rfl rfl ?_
                  refine gf_791 (pc := 152) 0 dX5_readRule_152 rfl rfl ?_
                  refine v_bipush (pc := 155) (v := 38) dX5_readRule_155 (by decide) ?_
                  refine v_dup2 (pc := 157) dX5_readRule_157 rfl rfl ?_
                  refine v_ialdN (pc := 158) 2 1 (38) dX5_readRule_158 rfl rfl rfl (by decide) (by decide) ?_
                  refine v_st (st' := [.int (nI rl), .int (38), .ref mp]) (by rw [QP_38 hqp (by omega), h_38]) ?_
                  refine v_iconst (pc := 159) (v := 1) dX5_readRule_159 (by decide) ?_
                  refine v_iadd (pc := 160) dX5_readRule_160 ?_
                  refine v_st (st' := [.int (nI (rl + 1)), .int (38), .ref mp]) (congrArg (fun z => Value.int z :: _) (nI_add rl 1)) ?_
                  refine v_iastN (pc := 161) (ws' := [(m0, .inr (5, [.ref ma, .int (nI nt), .int (nI pp), .int (th), .ref mp, .int (rn), .int (ro), .int (to), .int (wt), .int ((if (othV by_ tl r2 0 5 ((nd1) ||| (br2))) ≤ (hn2) then hn2 else othV by_ tl r2 0 5 ((nd1) ||| (br2)))), .int ((if (othV by_ tl ((0, p)) 0 3 0) ≤ (ho) then ho else othV by_ tl ((0, p)) 0 3 0)), .ref mt, .int (nI tl), .int (fa), .int (bk_138), .int (ba_138), .int ((nI sp_138)), .int ((nI he_138)), .int (to_138), .int (va_138), .ref mc, .ref ml, .ref mn, .int (nI se), .ref mk, .ref mg, .ref mh, .ref mq, .int (tn)])), (mt, .inl (E.2.1 1, 160, .inl (by_))), (mp, .inl (E.2.1 1, 43, .inl (upd (upd (pg2) ((6 + 4 * rl) + 3) ((br2) ||| ((1 : Int32) <<< ((othV by_ tl r2 0 5 ((nd1) ||| (br2))) &&& 31)))) (38) (nI (rl + 1))))), (mc, .inl (E.2.1 1, 9, .inl (cf))), (ml, .inl (E.2.1 1, 35, .inl (lf)))]) 2 1 (38) dX5_readRule_161 rfl rfl rfl (by decide) (by decide) rfl ?_
                  refine v_vret (pc := 162) dX5_readRule_162 rfl ⟨rfl, rfl⟩ ⟨(bk_138), (ba_138), (sp_138), (he_138), (to_138), (va_138), ((if (othV by_ tl r2 0 5 ((nd1) ||| (br2))) ≤ (hn2) then hn2 else othV by_ tl r2 0 5 ((nd1) ||| (br2)))), ((if (othV by_ tl ((0, p)) 0 3 0) ≤ (ho) then ho else othV by_ tl ((0, p)) 0 3 0)), (upd (upd (pg2) ((6 + 4 * rl) + 3) ((br2) ||| ((1 : Int32) <<< ((othV by_ tl r2 0 5 ((nd1) ||| (br2))) &&& 31)))) (38) (nI (rl + 1))), (othR by_ tl r2 0 5 (nd1 ||| br2)), ?_, rfl, ?_, ?_, ?_, ?_⟩
                  · skip
                    rfl
                  · skip
                    exact hf138_0
                  · skip
                    exact (hend).1
                  · skip
                    intro q
                    obtain ⟨e1, e2, e3, e4⟩ := (hend).2 q
                    exact ⟨by rw [e1]; exact e2, by rw [show othV by_ tl (0, p) 0 3 0 = tkV by_ tl p 0 from e3], rul_of hqp e3 e4 e1 rfl⟩
                  · skip
                    intro q
                    rw [← ((hend).2 q).2.2.1]
                    obtain ⟨y, hy, e⟩ := othV_in3 (b := by_) (n := tl) (r := (0, p)) (so := 0)
                    exact ⟨y, by omega, e⟩
            refine v_lv (lv' := [(1, .int (nI (6 + 4 * rl))), (0, .ref m0)]) [0, 1] rfl ?_
            refine loop_110 ((mes tl ((0, sq1))) + 1) bk_107 ba_107 sp_107 he_107 to_107 va_107 hn1 pg1 (0, sq1) 0 nn1 (Nat.lt_succ_self _) ?_ ?_ ?_ ?_
            · exact hf107_0
            · refine ⟨fun _ => ?_, fun q => absurd rfl q⟩
              obtain ⟨a1, a2, a3, a4, a5, a6, a7⟩ := h_55_1.1 hat.1
              refine ⟨a1, ?_, a3, a4, a5, a6, a7⟩
              rw [a2, rx_name hat.2.2.1 hat.2.1 (by rw [← hat.2.2.2.2.2.1, ← hat.2.2.2.2.1, ← hat.2.2.2.1]; exact nmI_7.mp c_103), hat.2.2.2.1]
            · exact h_55_2
            · exact Or.inl rfl
      · skip
        refine v_aload_n (pc := 62) 1 dX5_readRule_62 rfl rfl ?_
        refine gf_791 (pc := 63) 0 dX5_readRule_63 rfl rfl ?_
        refine v_iload_n (pc := 66) 0 dX5_readRule_66 rfl rfl ?_
        refine v_iconst (pc := 67) (v := 2) dX5_readRule_67 (by decide) ?_
        refine v_iadd (pc := 68) dX5_readRule_68 ?_
        refine v_st (st' := [.int (nI ((6 + 4 * rl) + 2)), .ref mp]) (congrArg (fun z => Value.int z :: _) (nI_add (6 + 4 * rl) 2)) ?_
        refine v_dup2 (pc := 69) dX5_readRule_69 rfl rfl ?_
        refine v_ialdN (pc := 70) 2 1 ((6 + 4 * rl) + 2) dX5_readRule_70 rfl rfl rfl (by omega) (by decide) ?_
        refine v_st (st' := [.int (nd1), .int (nI ((6 + 4 * rl) + 2)), .ref mp]) (by rw [QP_2 h_55_2]) ?_
        refine v_iconst (pc := 71) (v := 1) dX5_readRule_71 (by decide) ?_
        refine v_aload_n (pc := 72) 1 dX5_readRule_72 rfl rfl ?_
        refine v_aload_n (pc := 73) 1 dX5_readRule_73 rfl rfl ?_
        refine gf_791 (pc := 74) 0 dX5_readRule_74 rfl rfl ?_
        refine v_iload_n (pc := 77) 0 dX5_readRule_77 rfl rfl ?_
        refine v_iconst (pc := 78) (v := 2) dX5_readRule_78 (by decide) ?_
        refine v_iadd (pc := 79) dX5_readRule_79 ?_
        refine v_st (st' := [.int (nI ((6 + 4 * rl) + 2)), .ref mp, .ref m0, .int (1), .int (nd1), .int (nI ((6 + 4 * rl) + 2)), .ref mp]) (congrArg (fun z => Value.int z :: _) (nI_add (6 + 4 * rl) 2)) ?_
        refine v_ialdN (pc := 80) 2 1 ((6 + 4 * rl) + 2) dX5_readRule_80 rfl rfl rfl (by omega) (by decide) ?_
        refine v_st (st' := [.int (nd1), .ref m0, .int (1), .int (nd1), .int (nI ((6 + 4 * rl) + 2)), .ref mp]) (by rw [QP_2 h_55_2]) ?_
        refine v_callV (pc := 81) (rest := [.int (1), .int (nd1), .int (nI ((6 + 4 * rl) + 2)), .ref mp]) [0, 1] 0 lk_932 (c_X5_noteHere l E m0 ma mp mt mc ml mn mk mg mh mq nt pp tl se th rn ro to wt hn1 (if (othV by_ tl ((0, p)) 0 3 0) ≤ (ho) then ho else othV by_ tl ((0, p)) 0 3 0) fa bk1 ba1 tok1 val1 tn sq1 he1 by_ r1 nd1 h_tl h_b h_55_0) dX5_readRule_81 rfl rfl (Nat.le_of_ble_eq_true rfl) (by decide) rfl rfl rfl (by decide) rfl (by rintro _ _ ⟨_, _, _, _, _, _, _, rfl, _⟩; rfl) ?_
        rintro _ _ ⟨bk_81, ba_81, sp_81, he_81, to_81, va_81, rfl, rfl, hf81_0⟩
        refine v_w (ws' := [(m0, .inr (5, [.ref ma, .int (nI nt), .int (nI pp), .int (th), .ref mp, .int (rn), .int (ro), .int (to), .int (wt), .int (if (othV by_ tl r1 0 5 nd1) ≤ (hn1) then hn1 else othV by_ tl r1 0 5 nd1), .int ((if (othV by_ tl ((0, p)) 0 3 0) ≤ (ho) then ho else othV by_ tl ((0, p)) 0 3 0)), .ref mt, .int (nI tl), .int (fa), .int (bk_81), .int (ba_81), .int (nI sp_81), .int (nI he_81), .int (to_81), .int (va_81), .ref mc, .ref ml, .ref mn, .int (nI se), .ref mk, .ref mg, .ref mh, .ref mq, .int (tn)])), (mt, .inl (E.2.1 1, 160, .inl (by_))), (mp, .inl (E.2.1 1, 43, .inl (pg1))), (mc, .inl (E.2.1 1, 9, .inl (cf))), (ml, .inl (E.2.1 1, 35, .inl (lf)))]) rfl ?_
        refine v_st (st' := [.int (othV by_ tl r1 0 5 nd1), .int (1), .int (nd1), .int (nI ((6 + 4 * rl) + 2)), .ref mp]) rfl ?_
        refine v_ishl (pc := 84) dX5_readRule_84 ?_
        refine v_ior (pc := 85) dX5_readRule_85 ?_
        refine v_iastN (pc := 86) (ws' := [(m0, .inr (5, [.ref ma, .int (nI nt), .int (nI pp), .int (th), .ref mp, .int (rn), .int (ro), .int (to), .int (wt), .int (if (othV by_ tl r1 0 5 nd1) ≤ (hn1) then hn1 else othV by_ tl r1 0 5 nd1), .int ((if (othV by_ tl ((0, p)) 0 3 0) ≤ (ho) then ho else othV by_ tl ((0, p)) 0 3 0)), .ref mt, .int (nI tl), .int (fa), .int (bk_81), .int (ba_81), .int (nI sp_81), .int (nI he_81), .int (to_81), .int (va_81), .ref mc, .ref ml, .ref mn, .int (nI se), .ref mk, .ref mg, .ref mh, .ref mq, .int (tn)])), (mt, .inl (E.2.1 1, 160, .inl (by_))), (mp, .inl (E.2.1 1, 43, .inl (upd (pg1) ((6 + 4 * rl) + 2) ((nd1) ||| ((1 : Int32) <<< ((othV by_ tl r1 0 5 nd1) &&& 31)))))), (mc, .inl (E.2.1 1, 9, .inl (cf))), (ml, .inl (E.2.1 1, 35, .inl (lf)))]) 2 1 ((6 + 4 * rl) + 2) dX5_readRule_86 rfl rfl rfl (by omega) (by decide) rfl ?_
        refine v_goto (pc := 87) 55 dX5_readRule_87 (by decide) ?_
        refine v_lv (lv' := [(1, .int (nI (6 + 4 * rl))), (0, .ref m0)]) [0, 1] rfl ?_
        refine ih_55 bk_81 ba_81 sp_81 he_81 to_81 va_81 (if (othV by_ tl r1 0 5 nd1) ≤ (hn1) then hn1 else othV by_ tl r1 0 5 nd1) (upd (pg1) ((6 + 4 * rl) + 2) ((nd1) ||| ((1 : Int32) <<< ((othV by_ tl r1 0 5 nd1) &&& 31)))) (othR by_ tl r1 0 5 nd1) (sb nd1 (othV by_ tl r1 0 5 nd1)) (sb nn1 (tkV by_ tl r1.2 0)) (by have := mes_lt (so := nd1) (b := by_) h_55_0.2.2.1 (Or.inr (h_55_0.at c_59.1).1); omega) ?_ ?_ ?_
        · exact hf81_0
        · have hri := RI_note (so := nd1) h_55_0.2.2.1 h_55_1 (by rw [Int32.or_zero]) (fun q z => by have hz := h_55_0.at c_59.1; rw [← hz.2.2.2.2.2.1, c_59.2] at z; exact absurd z.1 (by decide)) (fun q z => by have hz := h_55_0.at c_59.1; have := nm_k z.1; rw [← hz.2.2.2.2.2.1, c_59.2] at this; exact absurd this (by decide))
          rw [if_pos rfl, if_pos rfl] at hri; exact hri
        · exact QP_nd _ h_55_2
  refine v_lv (lv' := [(1, .int (nI (6 + 4 * rl))), (0, .ref m0)]) [0, 1] rfl ?_
  refine loop_55 ((mes tl (rc2 by_ tl p)) + 1) bk_33 ba_33 sp_33 he_33 to_33 va_33 (if (othV by_ tl (rc1 by_ tl p) 0 5 0) ≤ (hn) then hn else othV by_ tl (rc1 by_ tl p) 0 5 0) (upd (upd (upd (upd (pg) (6 + 4 * rl) (othV by_ tl ((0, p)) 0 3 0)) ((6 + 4 * rl) + 1) (othV by_ tl (rc1 by_ tl p) 0 5 0)) ((6 + 4 * rl) + 2) (0)) ((6 + 4 * rl) + 3) (0)) (rc2 by_ tl p) 0 (sb nn (tkV by_ tl (tkN by_ tl p) 0)) (Nat.lt_succ_self _) ?_ ?_ ?_
  · exact hf33_0
  · exact RI_ini h_p h_nn h_hn
  · exact QP_ini
