/-! read, the model's: told by the class's own function -/
def laC (l : Int32) : Int32 := if l = -4 then -1 else l
theorem wbmk (f : Nat → Int32) (a : Nat) (n : Int32) (P : Prop) [Decidable P] : mkF f a n P a = wb (f a) n P := by
  have h : ∀ x m : Int32, (x &&& (m ^^^ -1)) ||| m = x ||| m := by
    intro x m
    apply b_ext
    intro i hi
    rw [b_or, b_and, b_xor, b_or, b_m1 i hi]
    cases bt x i <;> cases bt m i <;> rfl
  unfold mkF wb
  rw [pk_us]
  by_cases p : P
  · rw [if_pos p, if_pos p, h]
  · rw [if_neg p, if_neg p, or0]
theorem mkF_ne {f : Nat → Int32} {a : Nat} {n : Int32} {P : Prop} [Decidable P] {j : Nat} (h : j ≠ a) : mkF f a n P j = f j := pk_un h
theorem add_in {fs : Int32} {i sz : Nat} (hi : i ≤ 40) (hs : sz ≤ 40) : (¬ (Int32.toInt64 fs + Int32.toInt64 (nI i)) < 0 ∧ ¬ Int32.toInt64 (nI sz - 1) < (Int32.toInt64 fs + Int32.toInt64 (nI i))) ↔ okN (fs + nI i) sz := by
  have r := fb_rng fs
  have ei : (nI i).toInt = (i : Int) := nI_toInt (by omega)
  have es : (nI sz).toInt = (sz : Int) := nI_toInt (by omega)
  have e1 : (Int32.toInt64 fs + Int32.toInt64 (nI i)).toInt = fs.toInt + i := by
    have h1 : (Int32.toInt64 fs).toInt = fs.toInt := Int32.toInt_toInt64 fs
    have h2 : (Int32.toInt64 (nI i)).toInt = i := by rw [Int32.toInt_toInt64, ei]
    rw [fb_addL (by omega) (by omega), h1, h2]
  have e2 : (Int32.toInt64 (nI sz - 1)).toInt = (sz : Int) - 1 := by
    rw [Int32.toInt_toInt64]
    have h1 : (1 : Int32).toInt = 1 := by decide
    rw [fb_subI (by omega) (by omega), es, h1]
  have hL : (¬ (Int32.toInt64 fs + Int32.toInt64 (nI i)) < 0 ∧ ¬ Int32.toInt64 (nI sz - 1) < (Int32.toInt64 fs + Int32.toInt64 (nI i))) ↔ (0 ≤ fs.toInt + i ∧ fs.toInt + i < sz) := by
    rw [fa_lt64, fa_lt64, e1, e2]
    have z1 : (0 : Int64).toInt = 0 := by decide
    rw [z1]
    omega
  rw [hL]
  constructor
  · intro h
    have e3 : (fs + nI i).toInt = fs.toInt + i := by rw [fb_addI (by omega) (by omega), ei]
    have z2 : (0 : Int32).toInt = 0 := by decide
    unfold okN
    rw [fa_lt, fa_le, e3, es, z2]
    omega
  · intro h
    obtain ⟨p, hp, e⟩ := okN_ex h (by omega)
    have e4 : fs = nI p - nI i := by rw [← e]; simp
    rw [e4, pk_sub_toInt (by omega) (by omega)]
    omega
theorem add_ix {fs : Int32} {i p j : Nat} (h : fs + nI i = nI p) : nI (40 * j) + fs + nI i = nI (40 * j + p) := by
  rw [Int32.add_assoc, h, nI_add]
theorem rdC_ok {sz p : Nat} {rf : Nat → Int32} {x : Int32} (h : x = nI p) (hp : p < sz) (hs : sz ≤ 40) : rdC sz rf x = rf p := by
  subst h
  unfold rdC
  rw [if_pos (sh4 hp (by omega)), nI_clamp (by omega)]
theorem two_c {fs : Int32} (c : Nat) : fs + 2 * nI c = fs + nI (2 * c) := by
  rw [show (2 : Int32) = nI 2 from rfl, pk_mul]
theorem two_c1 {fs : Int32} (c : Nat) : fs + 2 * nI c + 1 = fs + nI (2 * c + 1) := by
  rw [two_c, Int32.add_assoc]
  exact congrArg (fun z => fs + z) (nI_1 (2 * c))
/-- the model's finding at a place -/
def mbF (l : Int32) (sz : Nat) (lane x : Int32) : Int32 := if l = -4 then 1 else if l = lane then (if okN x sz then 0 else 2) else 3
theorem mb_flt {l : Int32} {sz : Nat} {lane x : Int32} (hl : l = -4 ∨ (¬ l < 0 ∧ ¬ 2 < l)) (hx : ¬ lane < 0 ∧ ¬ 2 < lane) : mbF l sz lane x = fltA (laC l) (nI sz) lane x := by
  unfold mbF fltA laC
  rcases hl with h | h
  · subst h; simp
  · have h1 : ¬ l = -4 := fun e => h.1 (by rw [e]; decide)
    have h2 : ¬ l = -1 := fun e => h.1 (by rw [e]; decide)
    rw [if_neg h1, if_neg h1, if_neg h2]
    by_cases e : l = lane
    · rw [if_pos e, if_pos e]
      unfold okN
      by_cases a : x < 0
      · rw [if_neg (fun q => q.1 a), if_pos a]
      · rw [if_neg a]
        by_cases b : x < nI sz
        · rw [if_pos b, if_pos ⟨a, Int32.not_le.mpr b⟩]
        · rw [if_neg b, if_neg (fun q => q.2 (Int32.not_lt.mp b))]
    · rw [if_neg e, if_neg e]
theorem refu_neg {nt : Nat} {sp n : Int32} {P : Prop} [Decidable P] {v : Int32} (hv : 0 ≤ v) : (0 ≤ if refu nt sp n P = 0 then v else refu nt sp n P) ↔ refu nt sp n P = 0 := by
  by_cases h : refu nt sp n P = 0
  · rw [if_pos h]; exact ⟨fun _ => h, fun _ => hv⟩
  · rw [if_neg h]
    refine ⟨fun q => absurd q ?_, fun q => absurd q h⟩
    unfold refu at h ⊢
    split
    · split
      · decide
      · rename_i h1 h2; rw [if_pos h1, if_neg h2] at h; exact absurd rfl h
    · decide
theorem bt1_nn (x n : Int32) : 0 ≤ bt1 x n := by
  unfold bt1
  obtain ⟨j, hj, e⟩ := pk_andE (x >>> (n &&& 31)) (m := 1) 1 (by decide)
  rw [e]
  exact nI_pos' (by omega)
theorem okC {x : Int32} : (¬ x < 0 ∧ ¬ 1 < x) ↔ (x = 0 ∨ x = 1) := by
  constructor
  · intro h
    obtain ⟨j, hj, rfl⟩ := le_ex (b := 1) h.1 h.2 (by decide)
    rcases (show j = 0 ∨ j = 1 by omega) with rfl | rfl
    · exact Or.inl rfl
    · exact Or.inr rfl
  · rintro (rfl | rfl) <;> decide
theorem rdm_P {l : Int32} {sz : Nat} {x fs : Int32} {c : Nat} (hl : l = -4 ∨ (¬ l < 0 ∧ ¬ 2 < l)) (hx : ¬ x < 0 ∧ ¬ 2 < x) : fltP (laC l) (nI sz) x (fs + 2 * nI c) = if mbF l sz x (fs + nI (2 * c)) = 0 then mbF l sz x (fs + nI (2 * c + 1)) else mbF l sz x (fs + nI (2 * c)) := by
  unfold fltP
  rw [two_c1, two_c, mb_flt hl hx, mb_flt hl hx]
section RDM
variable {l : Int32} {sz : Nat} {rf : Nat → Int32} {nt : Nat} {sp x fs : Int32} {m c : Nat} {s : Int32}
theorem rdm_stop (hl : l = -4 ∨ (¬ l < 0 ∧ ¬ 2 < l)) (hx : ¬ x < 0 ∧ ¬ 2 < x) (hc : c < m) {i : Nat} {b : Int32} (hi : i = 2 * c ∨ (i = 2 * c + 1 ∧ mbF l sz x (fs + nI (2 * c)) = 0)) (hb : mbF l sz x (fs + nI i) = b) (hb0 : ¬ b = 0) : rdF (laC l) sz rf nt sp x fs (m - c) c s = (nI c, some (s, b)) := by
  have e : fltP (laC l) (nI sz) x (fs + 2 * nI c) = b := by
    rw [rdm_P hl hx]
    rcases hi with rfl | ⟨rfl, h⟩
    · rw [if_neg (by rw [hb]; exact hb0)]; exact hb
    · rw [if_pos h]; exact hb
  rw [show m - c = (m - (c + 1)) + 1 by omega, rdF, e, if_neg hb0]
theorem rdm_0 (hl : l = -4 ∨ (¬ l < 0 ∧ ¬ 2 < l)) (hx : ¬ x < 0 ∧ ¬ 2 < x) (h1 : mbF l sz x (fs + nI (2 * c)) = 0) (h2 : mbF l sz x (fs + nI (2 * c + 1)) = 0) : fltP (laC l) (nI sz) x (fs + 2 * nI c) = 0 := by
  rw [rdm_P hl hx, if_pos h1, h2]
theorem rdm_go (hc : c < m) (h0 : fltP (laC l) (nI sz) x (fs + 2 * nI c) = 0) {a b : Int32} (ha : rdC sz rf (fs + 2 * nI c) = a) (hb : rdC sz rf (fs + 2 * nI c + 1) = b) (h3 : b = 0 ∨ b = 1) (h4 : refu nt sp a (b = 1) = 0) : rdF (laC l) sz rf nt sp x fs (m - c) c s = rdF (laC l) sz rf nt sp x fs (m - (c + 1)) (c + 1) (wb s a (b = 1)) := by
  subst ha hb
  rw [show m - c = (m - (c + 1)) + 1 by omega, rdF, if_pos h0, if_pos h3, if_pos h4]
theorem rdm_ref (hc : c < m) (h0 : fltP (laC l) (nI sz) x (fs + 2 * nI c) = 0) {a b : Int32} (ha : rdC sz rf (fs + 2 * nI c) = a) (hb : rdC sz rf (fs + 2 * nI c + 1) = b) (h3 : ¬ (b = 0 ∨ b = 1) ∨ ¬ refu nt sp a (b = 1) = 0) : rdF (laC l) sz rf nt sp x fs (m - c) c s = (-20 - nI c, none) := by
  subst ha hb
  rw [show m - c = (m - (c + 1)) + 1 by omega, rdF, if_pos h0]
  by_cases h : rdC sz rf (fs + 2 * nI c + 1) = 0 ∨ rdC sz rf (fs + 2 * nI c + 1) = 1
  · rw [if_pos h, if_neg (h3.elim (fun q => absurd h q) id)]
  · rw [if_neg h]
end RDM
theorem mb_1 {l : Int32} {sz : Nat} {x y : Int32} (h : l = -4) : mbF l sz x y = 1 := by unfold mbF; rw [if_pos h]
theorem mb_3 {l : Int32} {sz : Nat} {x y : Int32} (h : ¬ l = -4) (h2 : ¬ l = x) : mbF l sz x y = 3 := by unfold mbF; rw [if_neg h, if_neg h2]
theorem mb_2 {l : Int32} {sz : Nat} {x y : Int32} (h : ¬ l = -4) (h2 : l = x) (h3 : ¬ okN y sz) : mbF l sz x y = 2 := by unfold mbF; rw [if_neg h, if_pos h2, if_neg h3]
theorem mb_0 {l : Int32} {sz : Nat} {x y : Int32} (h : ¬ l = -4) (h2 : l = x) (h3 : okN y sz) : mbF l sz x y = 0 := by unfold mbF; rw [if_neg h, if_pos h2, if_pos h3]
theorem mb_ok {l : Int32} {sz : Nat} {x y : Int32} (h : mbF l sz x y = 0) : okN y sz := by
  unfold mbF at h
  split at h
  · exact absurd h (by decide)
  · split at h
    · split at h
      · assumption
      · exact absurd h (by decide)
    · exact absurd h (by decide)
theorem c_X5_read (l : Launch) (E : VE) (m0 : Nat) (ma : Nat) (mp : Nat) (mt : Nat) (mc : Nat) (ml : Nat) (mn : Nat) (mk : Nat) (mg : Nat) (mh : Nat) (mq : Nat) (nt : Nat) (pp : Nat) (tl : Nat) (se : Nat) (th : Int32) (rn : Int32) (ro : Int32) (to : Int32) (wt : Int32) (hn : Int32) (ho : Int32) (fa : Int32) (bk : Int32) (ba : Int32) (spt : Int32) (hre : Int32) (tok : Int32) (val : Int32) (tn : Int32) (f : Nat → Int32) (lg : Nat → Int32) (lh_ : Nat → Int32) (cq : Nat → Int32) (j : Nat) (sz : Nat) (m : Nat) (x : Int32) (fs : Int32) (h_j : j < 4) (h_sz : sz ≤ 40) (h_l : lh_ j = nI sz) (h_lg : lg j = -4 ∨ (¬ lg j < 0 ∧ ¬ 2 < lg j)) (h_x : ¬ x < 0 ∧ ¬ 2 < x) (h_m : m ≤ 20) (h_nt : nt ≤ 6) : Ct l E yX5_read cX5_read 9 (Option.some FieldType.int) 3 68 0 0 [.ref m0, .int (nI j), .int (x), .int (fs), .int (nI m)] [(m0, .inr (5, [.ref ma, .int (nI nt), .int (nI pp), .int (th), .ref mp, .int (rn), .int (ro), .int (to), .int (wt), .int (hn), .int (ho), .ref mt, .int (nI tl), .int (fa), .int (bk), .int (ba), .int (spt), .int (hre), .int (tok), .int (val), .ref mc, .ref ml, .ref mn, .int (nI se), .ref mk, .ref mg, .ref mh, .ref mq, .int (tn)])), (ma, .inl (E.2.1 1, 172, .inl (f))), (mg, .inl (E.2.1 1, 4, .inl (lg))), (mh, .inl (E.2.1 1, 4, .inl (lh_))), (mq, .inl (E.2.1 1, 160, .inl (cq)))] (fun v wd => ∃ (g : Nat → Int32), v = some (.int (rdF (laC (lg j)) sz (fun p => cq (40 * j + p)) nt (f 40) x fs m 0 (f 41)).1) ∧ wd = [(m0, .inr (5, [.ref ma, .int (nI nt), .int (nI pp), .int (th), .ref mp, .int (rn), .int (ro), .int (to), .int (wt), .int (hn), .int (ho), .ref mt, .int (nI tl), .int (fa), .int (bk), .int (ba), .int (spt), .int (hre), .int (tok), .int (val), .ref mc, .ref ml, .ref mn, .int (nI se), .ref mk, .ref mg, .ref mh, .ref mq, .int (match (rdF (laC (lg j)) sz (fun p => cq (40 * j + p)) nt (f 40) x fs m 0 (f 41)).2 with | none => tn | some q => q.2)])), (ma, .inl (E.2.1 1, 172, .inl (g))), (mg, .inl (E.2.1 1, 4, .inl (lg))), (mh, .inl (E.2.1 1, 4, .inl (lh_))), (mq, .inl (E.2.1 1, 160, .inl (cq)))] ∧ (∀ p, p < 129 → p ≠ 41 → g p = f p) ∧ g 41 = match (rdF (laC (lg j)) sz (fun p => cq (40 * j + p)) nt (f 40) x fs m 0 (f 41)).2 with | none => f 41 | some q => q.1) := by
  refine Ct.of (own := RX5) (nm := "read") (lv := [(0, .ref m0), (1, .int (nI j)), (2, .int (x)), (3, .int (fs)), (4, .int (nI m))]) (by decide) rfl rfl (Nat.le_of_ble_eq_true rfl) rfl ?_
  refine v_iload_n (pc := 0) 1 dX5_read_0 rfl rfl ?_
  refine v_i2l (pc := 1) dX5_read_1 ?_
  refine v_lconst (pc := 2) (v := 0) dX5_read_2 (by decide) ?_
  refine v_ldc2 (pc := 3) dX5_read_3 tb_1161 ?_
  refine v_callS (pc := 6) (rest := []) [] lk_880 (c_X5_in l E (Int32.toInt64 (nI j)) 0 3) dX5_read_6 rfl rfl (Nat.le_of_ble_eq_true rfl) (by decide) (by decide) rfl (Rt.len rfl) (Rt.go ?_)
  refine v_w (ws' := [(m0, .inr (5, [.ref ma, .int (nI nt), .int (nI pp), .int (th), .ref mp, .int (rn), .int (ro), .int (to), .int (wt), .int (hn), .int (ho), .ref mt, .int (nI tl), .int (fa), .int (bk), .int (ba), .int (spt), .int (hre), .int (tok), .int (val), .ref mc, .ref ml, .ref mn, .int (nI se), .ref mk, .ref mg, .ref mh, .ref mq, .int (tn)])), (ma, .inl (E.2.1 1, 172, .inl (f))), (mg, .inl (E.2.1 1, 4, .inl (lg))), (mh, .inl (E.2.1 1, 4, .inl (lh_))), (mq, .inl (E.2.1 1, 160, .inl (cq)))]) rfl ?_
  refine v_st (st' := [.int (if ¬ (Int32.toInt64 (nI j)) < 0 ∧ ¬ 3 < (Int32.toInt64 (nI j)) then 1 else 0)]) rfl ?_
  refine v_st (st' := [.int (if ¬ nI j < 0 ∧ ¬ 3 < nI j then 1 else 0)]) (ite_st (inK (a := 0) (b := 3)) _) ?_
  refine v_ifB_eq (pc := 9) 37 dX5_read_9 (by decide) (fun c_9 => ?_) (fun c_9 => ?_)
  · skip
    refine v_iconst (pc := 37) (v := -1) dX5_read_37 (by decide) ?_
    refine v_iret (pc := 38) dX5_read_38 rfl ⟨rfl, rfl⟩ ?_
    exact absurd ⟨nI_pos (by omega), fun z => absurd ((nI_ltI (a := 3) (by omega) (by omega)).mp z) (by omega)⟩ c_9
  · skip
    refine v_iload_n (pc := 12) 2 dX5_read_12 rfl rfl ?_
    refine v_i2l (pc := 13) dX5_read_13 ?_
    refine v_lconst (pc := 14) (v := 0) dX5_read_14 (by decide) ?_
    refine v_ldc2 (pc := 15) dX5_read_15 tb_948 ?_
    refine v_callS (pc := 18) (rest := []) [] lk_880 (c_X5_in l E (Int32.toInt64 (x)) 0 2) dX5_read_18 rfl rfl (Nat.le_of_ble_eq_true rfl) (by decide) (by decide) rfl (Rt.len rfl) (Rt.go ?_)
    refine v_w (ws' := [(m0, .inr (5, [.ref ma, .int (nI nt), .int (nI pp), .int (th), .ref mp, .int (rn), .int (ro), .int (to), .int (wt), .int (hn), .int (ho), .ref mt, .int (nI tl), .int (fa), .int (bk), .int (ba), .int (spt), .int (hre), .int (tok), .int (val), .ref mc, .ref ml, .ref mn, .int (nI se), .ref mk, .ref mg, .ref mh, .ref mq, .int (tn)])), (ma, .inl (E.2.1 1, 172, .inl (f))), (mg, .inl (E.2.1 1, 4, .inl (lg))), (mh, .inl (E.2.1 1, 4, .inl (lh_))), (mq, .inl (E.2.1 1, 160, .inl (cq)))]) rfl ?_
    refine v_st (st' := [.int (if ¬ (Int32.toInt64 (x)) < 0 ∧ ¬ 2 < (Int32.toInt64 (x)) then 1 else 0)]) rfl ?_
    refine v_st (st' := [.int (if ¬ x < 0 ∧ ¬ 2 < x then 1 else 0)]) (ite_st (inK (a := 0) (b := 2)) _) ?_
    refine v_ifB_eq (pc := 21) 37 dX5_read_21 (by decide) (fun c_21 => ?_) (fun c_21 => ?_)
    · skip
      refine v_iconst (pc := 37) (v := -1) dX5_read_37 (by decide) ?_
      refine v_iret (pc := 38) dX5_read_38 rfl ⟨rfl, rfl⟩ ?_
      exact absurd h_x c_21
    · skip
      refine v_iload (pc := 24) 4 dX5_read_24 rfl ?_
      refine v_i2l (pc := 26) dX5_read_26 ?_
      refine v_lconst (pc := 27) (v := 0) dX5_read_27 (by decide) ?_
      refine v_ldc2 (pc := 28) dX5_read_28 tb_1199 ?_
      refine v_callS (pc := 31) (rest := []) [] lk_880 (c_X5_in l E (Int32.toInt64 (nI m)) 0 20) dX5_read_31 rfl rfl (Nat.le_of_ble_eq_true rfl) (by decide) (by decide) rfl (Rt.len rfl) (Rt.go ?_)
      refine v_w (ws' := [(m0, .inr (5, [.ref ma, .int (nI nt), .int (nI pp), .int (th), .ref mp, .int (rn), .int (ro), .int (to), .int (wt), .int (hn), .int (ho), .ref mt, .int (nI tl), .int (fa), .int (bk), .int (ba), .int (spt), .int (hre), .int (tok), .int (val), .ref mc, .ref ml, .ref mn, .int (nI se), .ref mk, .ref mg, .ref mh, .ref mq, .int (tn)])), (ma, .inl (E.2.1 1, 172, .inl (f))), (mg, .inl (E.2.1 1, 4, .inl (lg))), (mh, .inl (E.2.1 1, 4, .inl (lh_))), (mq, .inl (E.2.1 1, 160, .inl (cq)))]) rfl ?_
      refine v_st (st' := [.int (if ¬ (Int32.toInt64 (nI m)) < 0 ∧ ¬ 20 < (Int32.toInt64 (nI m)) then 1 else 0)]) rfl ?_
      refine v_st (st' := [.int (if ¬ nI m < 0 ∧ ¬ 20 < nI m then 1 else 0)]) (ite_st (inK (a := 0) (b := 20)) _) ?_
      refine v_ifB_ne (pc := 34) 39 dX5_read_34 (by decide) (fun c_34 => ?_) (fun c_34 => ?_)
      · skip
        refine v_aload_n (pc := 39) 0 dX5_read_39 rfl rfl ?_
        refine v_iconst (pc := 40) (v := 0) dX5_read_40 (by decide) ?_
        refine v_sipush (pc := 41) (v := 129) dX5_read_41 (by decide) ?_
        refine v_callV (pc := 44) (rest := []) [0, 1] 0 lk_1179 (c_X5_copies l E m0 ma mp mt mc ml mn mk mg mh mq nt pp tl se th rn ro to wt hn ho fa bk ba spt hre tok val tn f 0 129 (by omega) (by decide) (by decide)) dX5_read_44 rfl rfl (Nat.le_of_ble_eq_true rfl) (by decide) rfl rfl rfl (by decide) rfl (Rt.len rfl) (Rt.go ?_)
        refine v_w (ws' := [(m0, .inr (5, [.ref ma, .int (nI nt), .int (nI pp), .int (th), .ref mp, .int (rn), .int (ro), .int (to), .int (wt), .int (hn), .int (ho), .ref mt, .int (nI tl), .int (fa), .int (bk), .int (ba), .int (spt), .int (hre), .int (tok), .int (val), .ref mc, .ref ml, .ref mn, .int (nI se), .ref mk, .ref mg, .ref mh, .ref mq, .int (tn)])), (ma, .inl (E.2.1 1, 172, .inl (cpS f 0 129 43))), (mg, .inl (E.2.1 1, 4, .inl (lg))), (mh, .inl (E.2.1 1, 4, .inl (lh_))), (mq, .inl (E.2.1 1, 160, .inl (cq)))]) rfl ?_
        refine v_st (st' := []) rfl ?_
        refine v_iconst (pc := 47) (v := 0) dX5_read_47 (by decide) ?_
        refine v_istore (pc := 48) (lv' := [(5, .int (0)), (0, .ref m0), (1, .int (nI j)), (2, .int (x)), (3, .int (fs)), (4, .int (nI m))]) dX5_read_48 (by decide) rfl ?_
        refine v_iconst (pc := 50) (v := 0) dX5_read_50 (by decide) ?_
        refine v_istore (pc := 51) (lv' := [(6, .int (0)), (5, .int (0)), (0, .ref m0), (1, .int (nI j)), (2, .int (x)), (3, .int (fs)), (4, .int (nI m))]) dX5_read_51 (by decide) rfl ?_
        refine v_iconst (pc := 53) (v := 0) dX5_read_53 (by decide) ?_
        refine v_istore (pc := 54) (lv' := [(7, .int (0)), (6, .int (0)), (5, .int (0)), (0, .ref m0), (1, .int (nI j)), (2, .int (x)), (3, .int (fs)), (4, .int (nI m))]) dX5_read_54 (by decide) rfl ?_
        have loop_56 : ∀ (D_56 : Nat) (i : Nat) (by_ : Int32) (ca : Nat) (g : Nat → Int32), 2 * m - i < D_56 → (i ≤ 2 * m) → (ca ≤ i) → ((∀ p, p < 129 → p ≠ 41 → g p = f p) ∧ (∀ p, p < 43 → g (129 + p) = f p)) → ((by_ = 0 ∧ ca = i / 2 ∧ rdF (laC (lg j)) sz (fun p => cq (40 * j + p)) nt (f 40) x fs m 0 (f 41) = rdF (laC (lg j)) sz (fun p => cq (40 * j + p)) nt (f 40) x fs (m - ca) ca (g 41) ∧ (i % 2 = 1 → mbF (lg j) sz x (fs + nI (i - 1)) = 0)) ∨ (¬ by_ = 0 ∧ rdF (laC (lg j)) sz (fun p => cq (40 * j + p)) nt (f 40) x fs m 0 (f 41) = (nI ca, some (g 41, by_)))) → V l E RX5 cX5_read 9 (Option.some FieldType.int) "read" ({ frames := 3, cells := 0, slots := 0, locals := 68 }) [(m0, .inr (5, [.ref ma, .int (nI nt), .int (nI pp), .int (th), .ref mp, .int (rn), .int (ro), .int (to), .int (wt), .int (hn), .int (ho), .ref mt, .int (nI tl), .int (fa), .int (bk), .int (ba), .int (spt), .int (hre), .int (tok), .int (val), .ref mc, .ref ml, .ref mn, .int (nI se), .ref mk, .ref mg, .ref mh, .ref mq, .int (tn)])), (ma, .inl (E.2.1 1, 172, .inl (f))), (mg, .inl (E.2.1 1, 4, .inl (lg))), (mh, .inl (E.2.1 1, 4, .inl (lh_))), (mq, .inl (E.2.1 1, 160, .inl (cq)))] 0 0 (fun v wd => ∃ (g : Nat → Int32), v = some (.int (rdF (laC (lg j)) sz (fun p => cq (40 * j + p)) nt (f 40) x fs m 0 (f 41)).1) ∧ wd = [(m0, .inr (5, [.ref ma, .int (nI nt), .int (nI pp), .int (th), .ref mp, .int (rn), .int (ro), .int (to), .int (wt), .int (hn), .int (ho), .ref mt, .int (nI tl), .int (fa), .int (bk), .int (ba), .int (spt), .int (hre), .int (tok), .int (val), .ref mc, .ref ml, .ref mn, .int (nI se), .ref mk, .ref mg, .ref mh, .ref mq, .int (match (rdF (laC (lg j)) sz (fun p => cq (40 * j + p)) nt (f 40) x fs m 0 (f 41)).2 with | none => tn | some q => q.2)])), (ma, .inl (E.2.1 1, 172, .inl (g))), (mg, .inl (E.2.1 1, 4, .inl (lg))), (mh, .inl (E.2.1 1, 4, .inl (lh_))), (mq, .inl (E.2.1 1, 160, .inl (cq)))] ∧ (∀ p, p < 129 → p ≠ 41 → g p = f p) ∧ g 41 = match (rdF (laC (lg j)) sz (fun p => cq (40 * j + p)) nt (f 40) x fs m 0 (f 41)).2 with | none => f 41 | some q => q.1) 0 0 56 [(7, .int (nI i)), (5, .int (by_)), (6, .int (nI ca)), (0, .ref m0), (1, .int (nI j)), (2, .int (x)), (3, .int (fs)), (4, .int (nI m))] [] [(m0, .inr (5, [.ref ma, .int (nI nt), .int (nI pp), .int (th), .ref mp, .int (rn), .int (ro), .int (to), .int (wt), .int (hn), .int (ho), .ref mt, .int (nI tl), .int (fa), .int (bk), .int (ba), .int (spt), .int (hre), .int (tok), .int (val), .ref mc, .ref ml, .ref mn, .int (nI se), .ref mk, .ref mg, .ref mh, .ref mq, .int (tn)])), (ma, .inl (E.2.1 1, 172, .inl (g))), (mg, .inl (E.2.1 1, 4, .inl (lg))), (mh, .inl (E.2.1 1, 4, .inl (lh_))), (mq, .inl (E.2.1 1, 160, .inl (cq)))] := by
          intro D_56
          induction D_56 with
          | zero => intro i by_ ca g h; exact absurd h (Nat.not_lt_zero _)
          | succ D_56 ih_56 =>
            intro i by_ ca g hmu_56 h_56_0 h_56_1 h_56_2 h_56_3
            refine v_iload (pc := 56) 0 dX5_read_56 rfl ?_
            refine v_iconst (pc := 58) (v := 2) dX5_read_58 (by decide) ?_
            refine v_iload (pc := 59) 7 dX5_read_59 rfl ?_
            refine v_imul (pc := 61) dX5_read_61 ?_
            refine v_st (st' := [.int (nI (2 * m)), .int (nI i)]) (congrArg (fun z => Value.int z :: _) (pk_mul 2 m)) ?_
            refine v_cmpN_ge (pc := 62) (a := i) (b := 2 * m) 223 dX5_read_62 (by decide) (by omega) (by omega) (fun c_62 => ?_) (fun c_62 => ?_)
            · skip
              have hRe : rdF (laC (lg j)) sz (fun p => cq (40 * j + p)) nt (f 40) x fs m 0 (f 41) = (nI ca, some (g 41, by_)) := by
                rcases h_56_3 with ⟨q0, q1, q, -⟩ | ⟨q0, q⟩
                · rw [q, show m - ca = 0 by omega, q0]; rfl
                · exact q
              refine v_aload_n (pc := 223) 3 dX5_read_223 rfl rfl ?_
              refine v_iload (pc := 224) 1 dX5_read_224 rfl ?_
              refine pf_815 (pc := 226) (ws' := [(m0, .inr (5, [.ref ma, .int (nI nt), .int (nI pp), .int (th), .ref mp, .int (rn), .int (ro), .int (to), .int (wt), .int (hn), .int (ho), .ref mt, .int (nI tl), .int (fa), .int (bk), .int (ba), .int (spt), .int (hre), .int (tok), .int (val), .ref mc, .ref ml, .ref mn, .int (nI se), .ref mk, .ref mg, .ref mh, .ref mq, .int (by_)])), (ma, .inl (E.2.1 1, 172, .inl (g))), (mg, .inl (E.2.1 1, 4, .inl (lg))), (mh, .inl (E.2.1 1, 4, .inl (lh_))), (mq, .inl (E.2.1 1, 160, .inl (cq)))]) 0 dX5_read_226 rfl rfl rfl (Nat.le_of_ble_eq_true rfl) rfl ?_
              refine v_iload (pc := 229) 2 dX5_read_229 rfl ?_
              refine v_iret (pc := 231) dX5_read_231 rfl ⟨rfl, rfl⟩ ?_
              refine ⟨g, ?_, ?_, h_56_2.1, ?_⟩
              · rw [hRe]
              · rw [hRe]
              · rw [hRe]
            · skip
              refine v_iload (pc := 65) 1 dX5_read_65 rfl ?_
              refine v_if_ne (pc := 67) 223 dX5_read_67 (by decide) (fun c_67 => ?_) (fun c_67 => ?_)
              · skip
                have hRe : rdF (laC (lg j)) sz (fun p => cq (40 * j + p)) nt (f 40) x fs m 0 (f 41) = (nI ca, some (g 41, by_)) := by
                  rcases h_56_3 with ⟨q0, q1, q, -⟩ | ⟨q0, q⟩
                  · exact absurd q0 c_67
                  · exact q
                refine v_aload_n (pc := 223) 3 dX5_read_223 rfl rfl ?_
                refine v_iload (pc := 224) 1 dX5_read_224 rfl ?_
                refine pf_815 (pc := 226) (ws' := [(m0, .inr (5, [.ref ma, .int (nI nt), .int (nI pp), .int (th), .ref mp, .int (rn), .int (ro), .int (to), .int (wt), .int (hn), .int (ho), .ref mt, .int (nI tl), .int (fa), .int (bk), .int (ba), .int (spt), .int (hre), .int (tok), .int (val), .ref mc, .ref ml, .ref mn, .int (nI se), .ref mk, .ref mg, .ref mh, .ref mq, .int (by_)])), (ma, .inl (E.2.1 1, 172, .inl (g))), (mg, .inl (E.2.1 1, 4, .inl (lg))), (mh, .inl (E.2.1 1, 4, .inl (lh_))), (mq, .inl (E.2.1 1, 160, .inl (cq)))]) 0 dX5_read_226 rfl rfl rfl (Nat.le_of_ble_eq_true rfl) rfl ?_
                refine v_iload (pc := 229) 2 dX5_read_229 rfl ?_
                refine v_iret (pc := 231) dX5_read_231 rfl ⟨rfl, rfl⟩ ?_
                refine ⟨g, ?_, ?_, h_56_2.1, ?_⟩
                · rw [hRe]
                · rw [hRe]
                · rw [hRe]
              · skip
                have hR : rdF (laC (lg j)) sz (fun p => cq (40 * j + p)) nt (f 40) x fs m 0 (f 41) = rdF (laC (lg j)) sz (fun p => cq (40 * j + p)) nt (f 40) x fs (m - ca) ca (g 41) := by
                  rcases h_56_3 with ⟨-, -, q, -⟩ | ⟨q, -⟩
                  · exact q
                  · exact absurd c_67 q
                have hca : ca = i / 2 := by
                  rcases h_56_3 with ⟨-, q, -, -⟩ | ⟨q, -⟩
                  · exact q
                  · exact absurd c_67 q
                have hodd : i % 2 = 1 → mbF (lg j) sz x (fs + nI (i - 1)) = 0 := by
                  rcases h_56_3 with ⟨-, -, -, q⟩ | ⟨q, -⟩
                  · exact q
                  · exact absurd c_67 q
                refine v_aload_n (pc := 70) 3 dX5_read_70 rfl rfl ?_
                refine gf_812 (pc := 71) 0 dX5_read_71 rfl rfl ?_
                refine v_iload_n (pc := 74) 4 dX5_read_74 rfl rfl ?_
                refine v_ialdN (pc := 75) 2 1 (j) dX5_read_75 rfl rfl rfl (by omega) (by decide) ?_
                refine v_bipush (pc := 76) (v := -4) dX5_read_76 (by decide) ?_
                refine v_icmp_ne (pc := 78) 85 dX5_read_78 (by decide) (fun c_78 => ?_) (fun c_78 => ?_)
                · skip
                  refine v_aload_n (pc := 85) 3 dX5_read_85 rfl rfl ?_
                  refine gf_812 (pc := 86) 0 dX5_read_86 rfl rfl ?_
                  refine v_iload_n (pc := 89) 4 dX5_read_89 rfl rfl ?_
                  refine v_ialdN (pc := 90) 2 1 (j) dX5_read_90 rfl rfl rfl (by omega) (by decide) ?_
                  refine v_iload_n (pc := 91) 5 dX5_read_91 rfl rfl ?_
                  refine v_icmp_eq (pc := 92) 99 dX5_read_92 (by decide) (fun c_92 => ?_) (fun c_92 => ?_)
                  · skip
                    refine v_iload_n (pc := 99) 6 dX5_read_99 rfl rfl ?_
                    refine v_i2l (pc := 100) dX5_read_100 ?_
                    refine v_iload (pc := 101) 0 dX5_read_101 rfl ?_
                    refine v_i2l (pc := 103) dX5_read_103 ?_
                    refine v_ladd (pc := 104) dX5_read_104 ?_
                    refine v_lconst (pc := 105) (v := 0) dX5_read_105 (by decide) ?_
                    refine v_aload_n (pc := 106) 3 dX5_read_106 rfl rfl ?_
                    refine gf_813 (pc := 107) 0 dX5_read_107 rfl rfl ?_
                    refine v_iload_n (pc := 110) 4 dX5_read_110 rfl rfl ?_
                    refine v_ialdN (pc := 111) 3 1 (j) dX5_read_111 rfl rfl rfl (by omega) (by decide) ?_
                    refine v_st (st' := [.int (nI sz), .long (0), .long ((Int32.toInt64 (fs)) + (Int32.toInt64 (nI i)))]) (by rw [h_l]) ?_
                    refine v_iconst (pc := 112) (v := 1) dX5_read_112 (by decide) ?_
                    refine v_isub (pc := 113) dX5_read_113 ?_
                    refine v_i2l (pc := 114) dX5_read_114 ?_
                    refine v_callS (pc := 115) (rest := []) [] lk_880 (c_X5_in l E ((Int32.toInt64 (fs)) + (Int32.toInt64 (nI i))) 0 (Int32.toInt64 ((nI sz) - (1)))) dX5_read_115 rfl rfl (Nat.le_of_ble_eq_true rfl) (by decide) (by decide) rfl (Rt.len rfl) (Rt.go ?_)
                    refine v_w (ws' := [(m0, .inr (5, [.ref ma, .int (nI nt), .int (nI pp), .int (th), .ref mp, .int (rn), .int (ro), .int (to), .int (wt), .int (hn), .int (ho), .ref mt, .int (nI tl), .int (fa), .int (bk), .int (ba), .int (spt), .int (hre), .int (tok), .int (val), .ref mc, .ref ml, .ref mn, .int (nI se), .ref mk, .ref mg, .ref mh, .ref mq, .int (tn)])), (ma, .inl (E.2.1 1, 172, .inl (g))), (mg, .inl (E.2.1 1, 4, .inl (lg))), (mh, .inl (E.2.1 1, 4, .inl (lh_))), (mq, .inl (E.2.1 1, 160, .inl (cq)))]) rfl ?_
                    refine v_st (st' := [.int (if ¬ ((Int32.toInt64 (fs)) + (Int32.toInt64 (nI i))) < 0 ∧ ¬ (Int32.toInt64 ((nI sz) - (1))) < ((Int32.toInt64 (fs)) + (Int32.toInt64 (nI i))) then 1 else 0)]) rfl ?_
                    refine v_st (st' := [.int (if okN (fs + nI i) sz then 1 else 0)]) (ite_st (add_in (by omega) h_sz) _) ?_
                    refine v_ifB_ne (pc := 118) 125 dX5_read_118 (by decide) (fun c_118 => ?_) (fun c_118 => ?_)
                    · skip
                      refine v_iconst (pc := 125) (v := 0) dX5_read_125 (by decide) ?_
                      refine v_istore (pc := 126) (lv' := [(5, .int (0)), (7, .int (nI i)), (6, .int (nI ca)), (0, .ref m0), (1, .int (nI j)), (2, .int (x)), (3, .int (fs)), (4, .int (nI m))]) dX5_read_126 (by decide) rfl ?_
                      refine v_iload (pc := 128) 0 dX5_read_128 rfl ?_
                      refine v_if_ne (pc := 130) 217 dX5_read_130 (by decide) (fun c => absurd c (by decide)) (fun _ => ?_)
                      refine v_iload (pc := 133) 1 dX5_read_133 rfl ?_
                      refine v_iconst (pc := 135) (v := 2) dX5_read_135 (by decide) ?_
                      refine v_irem (pc := 136) dX5_read_136 (by decide) ?_
                      refine v_st (st' := [.int (nI (i % 2))]) (by exact congrArg (fun z => Value.int z :: _) (pk_rem (d := 2) (by omega) (by decide) (by decide))) ?_
                      refine v_iconst (pc := 137) (v := 1) dX5_read_137 (by decide) ?_
                      refine v_cmpN_ne (pc := 138) (a := i % 2) (b := 1) 217 dX5_read_138 (by decide) (by omega) (by omega) (fun c_138 => ?_) (fun c_138 => ?_)
                      · skip
                        refine v_iinc (pc := 217) (v := nI (i + 1)) (lv' := [(7, .int (nI (i + 1))), (5, .int (0)), (6, .int (nI ca)), (0, .ref m0), (1, .int (nI j)), (2, .int (x)), (3, .int (fs)), (4, .int (nI m))]) 1 dX5_read_217 rfl (nI_inc (i) 1) (by decide) rfl ?_
                        refine v_goto (pc := 220) 56 dX5_read_220 (by decide) ?_
                        refine v_lv (lv' := [(7, .int (nI (i + 1))), (5, .int (0)), (6, .int (nI ca)), (0, .ref m0), (1, .int (nI j)), (2, .int (x)), (3, .int (fs)), (4, .int (nI m))]) [0, 1, 2, 3, 4, 5, 6, 7] rfl ?_
                        refine ih_56 (i + 1) 0 ca g (by omega) ?_ ?_ ?_ ?_
                        · omega
                        · omega
                        · exact h_56_2
                        · exact Or.inl ⟨rfl, by omega, hR, fun _ => by rw [Nat.add_sub_cancel]; exact mb_0 c_78 c_92 c_118⟩
                      · skip
                        obtain ⟨p, hp, hpe⟩ := okN_ex c_118 (by omega)
                        obtain ⟨p0, hp0, hpe0⟩ := okN_ex (mb_ok (hodd c_138)) (by omega)
                        have hpp : p = p0 + 1 := by
                          have e : nI p = nI (p0 + 1) := by rw [← hpe, ← nI_1, ← hpe0, Int32.add_assoc, nI_1, show i - 1 + 1 = i by omega]
                          exact (nI_eq (by omega) (by omega)).mp e
                        have hi2 : i = 2 * ca + 1 := by omega
                        have hP := rdm_0 (sz := sz) (fs := fs) (c := ca) h_lg h_x (by rw [show 2 * ca = i - 1 by omega]; exact hodd c_138) (by rw [← hi2]; exact mb_0 c_78 c_92 c_118)
                        have hg40 : g 40 = f 40 := h_56_2.1 40 (by decide) (by decide)
                        have hA : rdC sz (fun p => cq (40 * j + p)) (fs + 2 * nI ca) = cq (40 * j + p0) := rdC_ok (by rw [two_c, show 2 * ca = i - 1 by omega]; exact hpe0) hp0 h_sz
                        have hB : rdC sz (fun p => cq (40 * j + p)) (fs + 2 * nI ca + 1) = cq (40 * j + p) := rdC_ok (by rw [two_c1, ← hi2]; exact hpe) hp h_sz
                        refine v_bipush (pc := 141) (v := 40) dX5_read_141 (by decide) ?_
                        refine v_iload_n (pc := 143) 4 dX5_read_143 rfl rfl ?_
                        refine v_imul (pc := 144) dX5_read_144 ?_
                        refine v_st (st' := [.int (nI (40 * j))]) (congrArg (fun z => Value.int z :: _) (pk_mul 40 j)) ?_
                        refine v_iload_n (pc := 145) 6 dX5_read_145 rfl rfl ?_
                        refine v_iadd (pc := 146) dX5_read_146 ?_
                        refine v_iload (pc := 147) 1 dX5_read_147 rfl ?_
                        refine v_iadd (pc := 149) dX5_read_149 ?_
                        refine v_st (st' := [.int (nI (40 * j + p))]) (by rw [add_ix hpe]) ?_
                        refine v_istore (pc := 150) (lv' := [(8, .int (nI (40 * j + p))), (5, .int (0)), (7, .int (nI i)), (6, .int (nI ca)), (0, .ref m0), (1, .int (nI j)), (2, .int (x)), (3, .int (fs)), (4, .int (nI m))]) dX5_read_150 (by decide) rfl ?_
                        refine v_aload_n (pc := 152) 4 dX5_read_152 rfl rfl ?_
                        refine gf_814 (pc := 153) 0 dX5_read_153 rfl rfl ?_
                        refine v_iload (pc := 156) 0 dX5_read_156 rfl ?_
                        refine v_ialdN (pc := 158) 4 1 (40 * j + p) dX5_read_158 rfl rfl rfl (by omega) (by decide) ?_
                        refine v_i2l (pc := 159) dX5_read_159 ?_
                        refine v_lconst (pc := 160) (v := 0) dX5_read_160 (by decide) ?_
                        refine v_lconst (pc := 161) (v := 1) dX5_read_161 (by decide) ?_
                        refine v_callS (pc := 162) (rest := []) [] lk_880 (c_X5_in l E (Int32.toInt64 (cq (40 * j + p))) 0 1) dX5_read_162 rfl rfl (Nat.le_of_ble_eq_true rfl) (by decide) (by decide) rfl (Rt.len rfl) (Rt.go ?_)
                        refine v_w (ws' := [(m0, .inr (5, [.ref ma, .int (nI nt), .int (nI pp), .int (th), .ref mp, .int (rn), .int (ro), .int (to), .int (wt), .int (hn), .int (ho), .ref mt, .int (nI tl), .int (fa), .int (bk), .int (ba), .int (spt), .int (hre), .int (tok), .int (val), .ref mc, .ref ml, .ref mn, .int (nI se), .ref mk, .ref mg, .ref mh, .ref mq, .int (tn)])), (ma, .inl (E.2.1 1, 172, .inl (g))), (mg, .inl (E.2.1 1, 4, .inl (lg))), (mh, .inl (E.2.1 1, 4, .inl (lh_))), (mq, .inl (E.2.1 1, 160, .inl (cq)))]) rfl ?_
                        refine v_st (st' := [.int (if ¬ (Int32.toInt64 (cq (40 * j + p))) < 0 ∧ ¬ 1 < (Int32.toInt64 (cq (40 * j + p))) then 1 else 0)]) rfl ?_
                        refine v_st (st' := [.int (if ¬ cq (40 * j + p) < 0 ∧ ¬ 1 < cq (40 * j + p) then 1 else 0)]) (ite_st (inK (a := 0) (b := 1)) _) ?_
                        refine v_ifB_eq (pc := 165) 200 dX5_read_165 (by decide) (fun c_165 => ?_) (fun c_165 => ?_)
                        · skip
                          refine v_aload_n (pc := 200) 4 dX5_read_200 rfl rfl ?_
                          refine v_sipush (pc := 201) (v := 129) dX5_read_201 (by decide) ?_
                          refine v_iconst (pc := 204) (v := 0) dX5_read_204 (by decide) ?_
                          refine v_callV (pc := 205) (rest := []) [0, 1] 0 lk_1179 (c_X5_copies l E m0 ma mp mt mc ml mn mk mg mh mq nt pp tl se th rn ro to wt hn ho fa bk ba spt hre tok val tn g 129 0 (by omega) (by decide) (by decide)) dX5_read_205 rfl rfl (Nat.le_of_ble_eq_true rfl) (by decide) rfl rfl rfl (by decide) rfl (Rt.len rfl) (Rt.go ?_)
                          refine v_w (ws' := [(m0, .inr (5, [.ref ma, .int (nI nt), .int (nI pp), .int (th), .ref mp, .int (rn), .int (ro), .int (to), .int (wt), .int (hn), .int (ho), .ref mt, .int (nI tl), .int (fa), .int (bk), .int (ba), .int (spt), .int (hre), .int (tok), .int (val), .ref mc, .ref ml, .ref mn, .int (nI se), .ref mk, .ref mg, .ref mh, .ref mq, .int (tn)])), (ma, .inl (E.2.1 1, 172, .inl (cpS g 129 0 43))), (mg, .inl (E.2.1 1, 4, .inl (lg))), (mh, .inl (E.2.1 1, 4, .inl (lh_))), (mq, .inl (E.2.1 1, 160, .inl (cq)))]) rfl ?_
                          refine v_st (st' := []) rfl ?_
                          refine v_bipush (pc := 208) (v := -20) dX5_read_208 (by decide) ?_
                          refine v_iload (pc := 210) 3 dX5_read_210 rfl ?_
                          refine v_isub (pc := 212) dX5_read_212 ?_
                          refine v_iret (pc := 213) dX5_read_213 rfl ⟨rfl, rfl⟩ ?_
                          have hRf : rdF (laC (lg j)) sz (fun p => cq (40 * j + p)) nt (f 40) x fs m 0 (f 41) = (-20 - nI ca, none) := by rw [hR]; exact rdm_ref (by omega) hP hA hB (Or.inl (fun q => c_165 (okC.mpr q)))
                          refine ⟨cpS g 129 0 43, ?_, ?_, ?_, ?_⟩
                          · rw [hRf]
                          · rw [hRf]
                          · intro p h1 h2; unfold cpS; by_cases q : 0 ≤ p ∧ p < 0 + 43
                            · rw [if_pos q]; exact h_56_2.2 p (by omega)
                            · rw [if_neg q]; exact h_56_2.1 p h1 h2
                          · rw [hRf]; exact h_56_2.2 41 (by decide)
                        · skip
                          refine v_aload_n (pc := 168) 4 dX5_read_168 rfl rfl ?_
                          refine v_aload_n (pc := 169) 4 dX5_read_169 rfl rfl ?_
                          refine gf_814 (pc := 170) 0 dX5_read_170 rfl rfl ?_
                          refine v_iload (pc := 173) 0 dX5_read_173 rfl ?_
                          refine v_iconst (pc := 175) (v := 1) dX5_read_175 (by decide) ?_
                          refine v_isub (pc := 176) dX5_read_176 ?_
                          refine v_st (st' := [.int (nI (40 * j + p0)), .ref mq, .ref m0]) (by rw [nI_m1 (by omega), show 40 * j + p - 1 = 40 * j + p0 by omega]) ?_
                          refine v_ialdN (pc := 177) 4 1 (40 * j + p0) dX5_read_177 rfl rfl rfl (by omega) (by decide) ?_
                          refine v_aload_n (pc := 178) 4 dX5_read_178 rfl rfl ?_
                          refine gf_814 (pc := 179) 0 dX5_read_179 rfl rfl ?_
                          refine v_iload (pc := 182) 0 dX5_read_182 rfl ?_
                          refine v_ialdN (pc := 184) 4 1 (40 * j + p) dX5_read_184 rfl rfl rfl (by omega) (by decide) ?_
                          refine v_iconst (pc := 185) (v := 1) dX5_read_185 (by decide) ?_
                          suffices J_186 : V l E RX5 cX5_read 9 (Option.some FieldType.int) "read" ({ frames := 3, cells := 0, slots := 0, locals := 68 }) [(m0, .inr (5, [.ref ma, .int (nI nt), .int (nI pp), .int (th), .ref mp, .int (rn), .int (ro), .int (to), .int (wt), .int (hn), .int (ho), .ref mt, .int (nI tl), .int (fa), .int (bk), .int (ba), .int (spt), .int (hre), .int (tok), .int (val), .ref mc, .ref ml, .ref mn, .int (nI se), .ref mk, .ref mg, .ref mh, .ref mq, .int (tn)])), (ma, .inl (E.2.1 1, 172, .inl (f))), (mg, .inl (E.2.1 1, 4, .inl (lg))), (mh, .inl (E.2.1 1, 4, .inl (lh_))), (mq, .inl (E.2.1 1, 160, .inl (cq)))] 0 0 (fun v wd => ∃ (g : Nat → Int32), v = some (.int (rdF (laC (lg j)) sz (fun p => cq (40 * j + p)) nt (f 40) x fs m 0 (f 41)).1) ∧ wd = [(m0, .inr (5, [.ref ma, .int (nI nt), .int (nI pp), .int (th), .ref mp, .int (rn), .int (ro), .int (to), .int (wt), .int (hn), .int (ho), .ref mt, .int (nI tl), .int (fa), .int (bk), .int (ba), .int (spt), .int (hre), .int (tok), .int (val), .ref mc, .ref ml, .ref mn, .int (nI se), .ref mk, .ref mg, .ref mh, .ref mq, .int (match (rdF (laC (lg j)) sz (fun p => cq (40 * j + p)) nt (f 40) x fs m 0 (f 41)).2 with | none => tn | some q => q.2)])), (ma, .inl (E.2.1 1, 172, .inl (g))), (mg, .inl (E.2.1 1, 4, .inl (lg))), (mh, .inl (E.2.1 1, 4, .inl (lh_))), (mq, .inl (E.2.1 1, 160, .inl (cq)))] ∧ (∀ p, p < 129 → p ≠ 41 → g p = f p) ∧ g 41 = match (rdF (laC (lg j)) sz (fun p => cq (40 * j + p)) nt (f 40) x fs m 0 (f 41)).2 with | none => f 41 | some q => q.1) 0 0 194 [(8, .int (nI (40 * j + p))), (5, .int (0)), (7, .int (nI i)), (6, .int (nI ca)), (0, .ref m0), (1, .int (nI j)), (2, .int (x)), (3, .int (fs)), (4, .int (nI m))] [.int (if (cq (40 * j + p)) = (1) then 1 else 0), .int (cq (40 * j + p0)), .ref m0] [(m0, .inr (5, [.ref ma, .int (nI nt), .int (nI pp), .int (th), .ref mp, .int (rn), .int (ro), .int (to), .int (wt), .int (hn), .int (ho), .ref mt, .int (nI tl), .int (fa), .int (bk), .int (ba), .int (spt), .int (hre), .int (tok), .int (val), .ref mc, .ref ml, .ref mn, .int (nI se), .ref mk, .ref mg, .ref mh, .ref mq, .int (tn)])), (ma, .inl (E.2.1 1, 172, .inl (g))), (mg, .inl (E.2.1 1, 4, .inl (lg))), (mh, .inl (E.2.1 1, 4, .inl (lh_))), (mq, .inl (E.2.1 1, 160, .inl (cq)))] by
                            refine v_icmp_ne (pc := 186) 193 dX5_read_186 (by decide) (fun c_186 => ?_) (fun c_186 => ?_)
                            · skip
                              refine v_iconst (pc := 193) (v := 0) dX5_read_193 (by decide) ?_
                              refine v_st ?_ J_186
                              rw [if_neg (show ¬ ((cq (40 * j + p)) = (1)) from c_186)]
                            · skip
                              refine v_iconst (pc := 189) (v := 1) dX5_read_189 (by decide) ?_
                              refine v_goto (pc := 190) 194 dX5_read_190 (by decide) ?_
                              refine v_st ?_ J_186
                              rw [if_pos (show (cq (40 * j + p)) = (1) from c_186)]
                          refine v_callV (pc := 194) (rest := []) [0, 1] 0 lk_974 (c_X5_writes l E m0 ma mp mt mc ml mn mk mg mh mq nt pp tl se th rn ro to wt hn ho fa bk ba spt hre tok val tn g (cq (40 * j + p0)) ((cq (40 * j + p)) = (1)) inferInstance (by first | assumption | omega)) dX5_read_194 rfl rfl (Nat.le_of_ble_eq_true rfl) (by decide) rfl rfl rfl (by decide) rfl (Rt.len rfl) (Rt.go ?_)
                          refine v_w (ws' := [(m0, .inr (5, [.ref ma, .int (nI nt), .int (nI pp), .int (th), .ref mp, .int (rn), .int (ro), .int (to), .int (wt), .int (hn), .int (ho), .ref mt, .int (nI tl), .int (fa), .int (bk), .int (ba), .int (spt), .int (hre), .int (tok), .int (val), .ref mc, .ref ml, .ref mn, .int (nI se), .ref mk, .ref mg, .ref mh, .ref mq, .int (tn)])), (ma, .inl (E.2.1 1, 172, .inl (if refu nt (g 40) (cq (40 * j + p0)) ((cq (40 * j + p)) = (1)) = 0 then mkF g 41 (cq (40 * j + p0)) ((cq (40 * j + p)) = (1)) else g))), (mg, .inl (E.2.1 1, 4, .inl (lg))), (mh, .inl (E.2.1 1, 4, .inl (lh_))), (mq, .inl (E.2.1 1, 160, .inl (cq)))]) rfl ?_
                          refine v_st (st' := [.int (if refu nt (g 40) (cq (40 * j + p0)) ((cq (40 * j + p)) = (1)) = 0 then bt1 (g 41) (cq (40 * j + p0)) else refu nt (g 40) (cq (40 * j + p0)) ((cq (40 * j + p)) = (1)))]) rfl ?_
                          refine v_if_ge (pc := 197) 214 dX5_read_197 (by decide) (fun c_197 => ?_) (fun c_197 => ?_)
                          · skip
                            have hrz : refu nt (g 40) (cq (40 * j + p0)) (cq (40 * j + p) = 1) = 0 := (refu_neg (bt1_nn _ _)).mp c_197
                            refine v_iinc (pc := 214) (v := nI (ca + 1)) (lv' := [(6, .int (nI (ca + 1))), (8, .int (nI (40 * j + p))), (5, .int (0)), (7, .int (nI i)), (0, .ref m0), (1, .int (nI j)), (2, .int (x)), (3, .int (fs)), (4, .int (nI m))]) 3 dX5_read_214 rfl (nI_inc (ca) 1) (by decide) rfl ?_
                            refine v_iinc (pc := 217) (v := nI (i + 1)) (lv' := [(7, .int (nI (i + 1))), (6, .int (nI (ca + 1))), (8, .int (nI (40 * j + p))), (5, .int (0)), (0, .ref m0), (1, .int (nI j)), (2, .int (x)), (3, .int (fs)), (4, .int (nI m))]) 3 dX5_read_217 rfl (nI_inc (i) 1) (by decide) rfl ?_
                            refine v_goto (pc := 220) 56 dX5_read_220 (by decide) ?_
                            refine v_lv (lv' := [(7, .int (nI (i + 1))), (5, .int (0)), (6, .int (nI (ca + 1))), (0, .ref m0), (1, .int (nI j)), (2, .int (x)), (3, .int (fs)), (4, .int (nI m))]) [0, 3, 1, 4, 5, 6, 7, 8] rfl ?_
                            refine ih_56 (i + 1) 0 (ca + 1) (if refu nt (g 40) (cq (40 * j + p0)) ((cq (40 * j + p)) = (1)) = 0 then mkF g 41 (cq (40 * j + p0)) ((cq (40 * j + p)) = (1)) else g) (by omega) ?_ ?_ ?_ ?_
                            · omega
                            · omega
                            · rw [if_pos hrz]; exact ⟨fun p h1 h2 => (mkF_ne h2).trans (h_56_2.1 p h1 h2), fun p h1 => (mkF_ne (by omega)).trans (h_56_2.2 p h1)⟩
                            · refine Or.inl ⟨rfl, by omega, ?_, fun e => by omega⟩
                              rw [hR, if_pos hrz, wbmk]; exact rdm_go (by omega) hP hA hB (okC.mp c_165) (by rw [← hg40]; exact hrz)
                          · skip
                            refine v_aload_n (pc := 200) 4 dX5_read_200 rfl rfl ?_
                            refine v_sipush (pc := 201) (v := 129) dX5_read_201 (by decide) ?_
                            refine v_iconst (pc := 204) (v := 0) dX5_read_204 (by decide) ?_
                            refine v_callV (pc := 205) (rest := []) [0, 1] 0 lk_1179 (c_X5_copies l E m0 ma mp mt mc ml mn mk mg mh mq nt pp tl se th rn ro to wt hn ho fa bk ba spt hre tok val tn (if refu nt (g 40) (cq (40 * j + p0)) ((cq (40 * j + p)) = (1)) = 0 then mkF g 41 (cq (40 * j + p0)) ((cq (40 * j + p)) = (1)) else g) 129 0 (by omega) (by decide) (by decide)) dX5_read_205 rfl rfl (Nat.le_of_ble_eq_true rfl) (by decide) rfl rfl rfl (by decide) rfl (Rt.len rfl) (Rt.go ?_)
                            refine v_w (ws' := [(m0, .inr (5, [.ref ma, .int (nI nt), .int (nI pp), .int (th), .ref mp, .int (rn), .int (ro), .int (to), .int (wt), .int (hn), .int (ho), .ref mt, .int (nI tl), .int (fa), .int (bk), .int (ba), .int (spt), .int (hre), .int (tok), .int (val), .ref mc, .ref ml, .ref mn, .int (nI se), .ref mk, .ref mg, .ref mh, .ref mq, .int (tn)])), (ma, .inl (E.2.1 1, 172, .inl (cpS (if refu nt (g 40) (cq (40 * j + p0)) ((cq (40 * j + p)) = (1)) = 0 then mkF g 41 (cq (40 * j + p0)) ((cq (40 * j + p)) = (1)) else g) 129 0 43))), (mg, .inl (E.2.1 1, 4, .inl (lg))), (mh, .inl (E.2.1 1, 4, .inl (lh_))), (mq, .inl (E.2.1 1, 160, .inl (cq)))]) rfl ?_
                            refine v_st (st' := []) rfl ?_
                            refine v_bipush (pc := 208) (v := -20) dX5_read_208 (by decide) ?_
                            refine v_iload (pc := 210) 3 dX5_read_210 rfl ?_
                            refine v_isub (pc := 212) dX5_read_212 ?_
                            refine v_iret (pc := 213) dX5_read_213 rfl ⟨rfl, rfl⟩ ?_
                            have hrn : ¬ refu nt (g 40) (cq (40 * j + p0)) (cq (40 * j + p) = 1) = 0 := fun q => c_197 ((refu_neg (bt1_nn _ _)).mpr q)
                            have hRf : rdF (laC (lg j)) sz (fun p => cq (40 * j + p)) nt (f 40) x fs m 0 (f 41) = (-20 - nI ca, none) := by rw [hR]; exact rdm_ref (by omega) hP hA hB (Or.inr (by rw [← hg40]; exact hrn))
                            rw [if_neg hrn]
                            refine ⟨cpS g 129 0 43, ?_, ?_, ?_, ?_⟩
                            · rw [hRf]
                            · rw [hRf]
                            · intro p h1 h2; unfold cpS; by_cases q : 0 ≤ p ∧ p < 0 + 43
                              · rw [if_pos q]; exact h_56_2.2 p (by omega)
                              · rw [if_neg q]; exact h_56_2.1 p h1 h2
                            · rw [hRf]; exact h_56_2.2 41 (by decide)
                    · skip
                      refine v_iconst (pc := 121) (v := 2) dX5_read_121 (by decide) ?_
                      refine v_goto (pc := 122) 126 dX5_read_122 (by decide) ?_
                      refine v_istore (pc := 126) (lv' := [(5, .int (2)), (7, .int (nI i)), (6, .int (nI ca)), (0, .ref m0), (1, .int (nI j)), (2, .int (x)), (3, .int (fs)), (4, .int (nI m))]) dX5_read_126 (by decide) rfl ?_
                      refine v_iload (pc := 128) 0 dX5_read_128 rfl ?_
                      refine v_if_ne (pc := 130) 217 dX5_read_130 (by decide) (fun _ => ?_) (fun c => absurd c (by decide))
                      refine v_iinc (pc := 217) (v := nI (i + 1)) (lv' := [(7, .int (nI (i + 1))), (5, .int (2)), (6, .int (nI ca)), (0, .ref m0), (1, .int (nI j)), (2, .int (x)), (3, .int (fs)), (4, .int (nI m))]) 1 dX5_read_217 rfl (nI_inc (i) 1) (by decide) rfl ?_
                      refine v_goto (pc := 220) 56 dX5_read_220 (by decide) ?_
                      refine v_lv (lv' := [(7, .int (nI (i + 1))), (5, .int (2)), (6, .int (nI ca)), (0, .ref m0), (1, .int (nI j)), (2, .int (x)), (3, .int (fs)), (4, .int (nI m))]) [0, 1, 2, 3, 4, 5, 6, 7] rfl ?_
                      refine ih_56 (i + 1) 2 ca g (by omega) ?_ ?_ ?_ ?_
                      · omega
                      · omega
                      · exact h_56_2
                      · refine Or.inr ⟨by decide, ?_⟩
                        rw [hR]; exact rdm_stop h_lg h_x (by omega) (i := i) (by rcases Nat.mod_two_eq_zero_or_one i with e | e; exact Or.inl (by omega); exact Or.inr ⟨by omega, by rw [show 2 * ca = i - 1 by omega]; exact hodd e⟩) (mb_2 c_78 c_92 c_118) (by decide)
                  · skip
                    refine v_iconst (pc := 95) (v := 3) dX5_read_95 (by decide) ?_
                    refine v_goto (pc := 96) 126 dX5_read_96 (by decide) ?_
                    refine v_istore (pc := 126) (lv' := [(5, .int (3)), (7, .int (nI i)), (6, .int (nI ca)), (0, .ref m0), (1, .int (nI j)), (2, .int (x)), (3, .int (fs)), (4, .int (nI m))]) dX5_read_126 (by decide) rfl ?_
                    refine v_iload (pc := 128) 0 dX5_read_128 rfl ?_
                    refine v_if_ne (pc := 130) 217 dX5_read_130 (by decide) (fun _ => ?_) (fun c => absurd c (by decide))
                    refine v_iinc (pc := 217) (v := nI (i + 1)) (lv' := [(7, .int (nI (i + 1))), (5, .int (3)), (6, .int (nI ca)), (0, .ref m0), (1, .int (nI j)), (2, .int (x)), (3, .int (fs)), (4, .int (nI m))]) 1 dX5_read_217 rfl (nI_inc (i) 1) (by decide) rfl ?_
                    refine v_goto (pc := 220) 56 dX5_read_220 (by decide) ?_
                    refine v_lv (lv' := [(7, .int (nI (i + 1))), (5, .int (3)), (6, .int (nI ca)), (0, .ref m0), (1, .int (nI j)), (2, .int (x)), (3, .int (fs)), (4, .int (nI m))]) [0, 1, 2, 3, 4, 5, 6, 7] rfl ?_
                    refine ih_56 (i + 1) 3 ca g (by omega) ?_ ?_ ?_ ?_
                    · omega
                    · omega
                    · exact h_56_2
                    · refine Or.inr ⟨by decide, ?_⟩
                      rw [hR]; exact rdm_stop h_lg h_x (by omega) (i := i) (by rcases Nat.mod_two_eq_zero_or_one i with e | e; exact Or.inl (by omega); exact Or.inr ⟨by omega, by rw [show 2 * ca = i - 1 by omega]; exact hodd e⟩) (mb_3 c_78 c_92) (by decide)
                · skip
                  refine v_iconst (pc := 81) (v := 1) dX5_read_81 (by decide) ?_
                  refine v_goto (pc := 82) 126 dX5_read_82 (by decide) ?_
                  refine v_istore (pc := 126) (lv' := [(5, .int (1)), (7, .int (nI i)), (6, .int (nI ca)), (0, .ref m0), (1, .int (nI j)), (2, .int (x)), (3, .int (fs)), (4, .int (nI m))]) dX5_read_126 (by decide) rfl ?_
                  refine v_iload (pc := 128) 0 dX5_read_128 rfl ?_
                  refine v_if_ne (pc := 130) 217 dX5_read_130 (by decide) (fun _ => ?_) (fun c => absurd c (by decide))
                  refine v_iinc (pc := 217) (v := nI (i + 1)) (lv' := [(7, .int (nI (i + 1))), (5, .int (1)), (6, .int (nI ca)), (0, .ref m0), (1, .int (nI j)), (2, .int (x)), (3, .int (fs)), (4, .int (nI m))]) 1 dX5_read_217 rfl (nI_inc (i) 1) (by decide) rfl ?_
                  refine v_goto (pc := 220) 56 dX5_read_220 (by decide) ?_
                  refine v_lv (lv' := [(7, .int (nI (i + 1))), (5, .int (1)), (6, .int (nI ca)), (0, .ref m0), (1, .int (nI j)), (2, .int (x)), (3, .int (fs)), (4, .int (nI m))]) [0, 1, 2, 3, 4, 5, 6, 7] rfl ?_
                  refine ih_56 (i + 1) 1 ca g (by omega) ?_ ?_ ?_ ?_
                  · omega
                  · omega
                  · exact h_56_2
                  · refine Or.inr ⟨by decide, ?_⟩
                    rw [hR]; exact rdm_stop h_lg h_x (by omega) (i := i) (by rcases Nat.mod_two_eq_zero_or_one i with e | e; exact Or.inl (by omega); exact Or.inr ⟨by omega, by rw [show 2 * ca = i - 1 by omega]; exact hodd e⟩) (mb_1 c_78) (by decide)
        refine v_lv (lv' := [(7, .int (nI 0)), (5, .int (0)), (6, .int (nI 0)), (0, .ref m0), (1, .int (nI j)), (2, .int (x)), (3, .int (fs)), (4, .int (nI m))]) [0, 2, 1, 3, 4, 5, 6, 7] rfl ?_
        refine loop_56 ((2 * m - 0) + 1) 0 0 0 (cpS f 0 129 43) (Nat.lt_succ_self _) ?_ ?_ ?_ ?_
        · omega
        · omega
        · refine ⟨fun p h1 h2 => ?_, fun p h1 => ?_⟩
          · unfold cpS; rw [if_neg (by omega)]
          · unfold cpS; rw [if_pos (by omega), show 0 + (129 + p - 129) = p by omega]
        · exact Or.inl ⟨rfl, rfl, rfl, fun e => absurd e (by decide)⟩
      · skip
        refine v_iconst (pc := 37) (v := -1) dX5_read_37 (by decide) ?_
        refine v_iret (pc := 38) dX5_read_38 rfl ⟨rfl, rfl⟩ ?_
        exact absurd ⟨nI_pos (by omega), fun z => absurd ((nI_ltI (a := 20) (by omega) (by omega)).mp z) (by omega)⟩ c_34
theorem cB_X5_read (l : Launch) (E : VE) (m0 : Nat) (ma : Nat) (mp : Nat) (mt : Nat) (mc : Nat) (ml : Nat) (mn : Nat) (mk : Nat) (mg : Nat) (mh : Nat) (mq : Nat) (nt : Nat) (pp : Nat) (tl : Nat) (se : Nat) (th : Int32) (rn : Int32) (ro : Int32) (to : Int32) (wt : Int32) (hn : Int32) (ho : Int32) (fa : Int32) (bk : Int32) (ba : Int32) (spt : Int32) (hre : Int32) (tok : Int32) (val : Int32) (tn : Int32) (k : Int32) (x : Int32) (fs : Int32) (n : Int32) (h_k : ¬ ((¬ k < 0 ∧ ¬ 3 < k) ∧ (¬ x < 0 ∧ ¬ 2 < x) ∧ (¬ n < 0 ∧ ¬ 20 < n))) : Ct l E yX5_read cX5_read 9 (Option.some FieldType.int) 1 25 0 0 [.ref m0, .int (k), .int (x), .int (fs), .int (n)] [(m0, .inr (5, [.ref ma, .int (nI nt), .int (nI pp), .int (th), .ref mp, .int (rn), .int (ro), .int (to), .int (wt), .int (hn), .int (ho), .ref mt, .int (nI tl), .int (fa), .int (bk), .int (ba), .int (spt), .int (hre), .int (tok), .int (val), .ref mc, .ref ml, .ref mn, .int (nI se), .ref mk, .ref mg, .ref mh, .ref mq, .int (tn)]))] (Rt (some (.int (-1))) [(m0, .inr (5, [.ref ma, .int (nI nt), .int (nI pp), .int (th), .ref mp, .int (rn), .int (ro), .int (to), .int (wt), .int (hn), .int (ho), .ref mt, .int (nI tl), .int (fa), .int (bk), .int (ba), .int (spt), .int (hre), .int (tok), .int (val), .ref mc, .ref ml, .ref mn, .int (nI se), .ref mk, .ref mg, .ref mh, .ref mq, .int (tn)]))]) := by
  refine Ct.of (own := RX5) (nm := "read") (lv := [(0, .ref m0), (1, .int (k)), (2, .int (x)), (3, .int (fs)), (4, .int (n))]) (by decide) rfl rfl (Nat.le_of_ble_eq_true rfl) rfl ?_
  refine v_iload_n (pc := 0) 1 dX5_read_0 rfl rfl ?_
  refine v_i2l (pc := 1) dX5_read_1 ?_
  refine v_lconst (pc := 2) (v := 0) dX5_read_2 (by decide) ?_
  refine v_ldc2 (pc := 3) dX5_read_3 tb_1161 ?_
  refine v_callS (pc := 6) (rest := []) [] lk_880 (c_X5_in l E (Int32.toInt64 (k)) 0 3) dX5_read_6 rfl rfl (Nat.le_of_ble_eq_true rfl) (by decide) (by decide) rfl (Rt.len rfl) (Rt.go ?_)
  refine v_w (ws' := [(m0, .inr (5, [.ref ma, .int (nI nt), .int (nI pp), .int (th), .ref mp, .int (rn), .int (ro), .int (to), .int (wt), .int (hn), .int (ho), .ref mt, .int (nI tl), .int (fa), .int (bk), .int (ba), .int (spt), .int (hre), .int (tok), .int (val), .ref mc, .ref ml, .ref mn, .int (nI se), .ref mk, .ref mg, .ref mh, .ref mq, .int (tn)]))]) rfl ?_
  refine v_st (st' := [.int (if ¬ (Int32.toInt64 (k)) < 0 ∧ ¬ 3 < (Int32.toInt64 (k)) then 1 else 0)]) rfl ?_
  refine v_st (st' := [.int (if ¬ k < 0 ∧ ¬ 3 < k then 1 else 0)]) (ite_st (inK (a := 0) (b := 3)) _) ?_
  refine v_ifB_eq (pc := 9) 37 dX5_read_9 (by decide) (fun c_9 => ?_) (fun c_9 => ?_)
  · skip
    refine v_iconst (pc := 37) (v := -1) dX5_read_37 (by decide) ?_
    refine v_iret (pc := 38) dX5_read_38 rfl ⟨rfl, rfl⟩ (Rt.i ?_)
    first | simp only [if_neg c_9] | rfl
  · skip
    refine v_iload_n (pc := 12) 2 dX5_read_12 rfl rfl ?_
    refine v_i2l (pc := 13) dX5_read_13 ?_
    refine v_lconst (pc := 14) (v := 0) dX5_read_14 (by decide) ?_
    refine v_ldc2 (pc := 15) dX5_read_15 tb_948 ?_
    refine v_callS (pc := 18) (rest := []) [] lk_880 (c_X5_in l E (Int32.toInt64 (x)) 0 2) dX5_read_18 rfl rfl (Nat.le_of_ble_eq_true rfl) (by decide) (by decide) rfl (Rt.len rfl) (Rt.go ?_)
    refine v_w (ws' := [(m0, .inr (5, [.ref ma, .int (nI nt), .int (nI pp), .int (th), .ref mp, .int (rn), .int (ro), .int (to), .int (wt), .int (hn), .int (ho), .ref mt, .int (nI tl), .int (fa), .int (bk), .int (ba), .int (spt), .int (hre), .int (tok), .int (val), .ref mc, .ref ml, .ref mn, .int (nI se), .ref mk, .ref mg, .ref mh, .ref mq, .int (tn)]))]) rfl ?_
    refine v_st (st' := [.int (if ¬ (Int32.toInt64 (x)) < 0 ∧ ¬ 2 < (Int32.toInt64 (x)) then 1 else 0)]) rfl ?_
    refine v_st (st' := [.int (if ¬ x < 0 ∧ ¬ 2 < x then 1 else 0)]) (ite_st (inK (a := 0) (b := 2)) _) ?_
    refine v_ifB_eq (pc := 21) 37 dX5_read_21 (by decide) (fun c_21 => ?_) (fun c_21 => ?_)
    · skip
      refine v_iconst (pc := 37) (v := -1) dX5_read_37 (by decide) ?_
      refine v_iret (pc := 38) dX5_read_38 rfl ⟨rfl, rfl⟩ (Rt.i ?_)
      first | simp only [if_pos c_9, if_neg c_21] | rfl
    · skip
      refine v_iload (pc := 24) 4 dX5_read_24 rfl ?_
      refine v_i2l (pc := 26) dX5_read_26 ?_
      refine v_lconst (pc := 27) (v := 0) dX5_read_27 (by decide) ?_
      refine v_ldc2 (pc := 28) dX5_read_28 tb_1199 ?_
      refine v_callS (pc := 31) (rest := []) [] lk_880 (c_X5_in l E (Int32.toInt64 (n)) 0 20) dX5_read_31 rfl rfl (Nat.le_of_ble_eq_true rfl) (by decide) (by decide) rfl (Rt.len rfl) (Rt.go ?_)
      refine v_w (ws' := [(m0, .inr (5, [.ref ma, .int (nI nt), .int (nI pp), .int (th), .ref mp, .int (rn), .int (ro), .int (to), .int (wt), .int (hn), .int (ho), .ref mt, .int (nI tl), .int (fa), .int (bk), .int (ba), .int (spt), .int (hre), .int (tok), .int (val), .ref mc, .ref ml, .ref mn, .int (nI se), .ref mk, .ref mg, .ref mh, .ref mq, .int (tn)]))]) rfl ?_
      refine v_st (st' := [.int (if ¬ (Int32.toInt64 (n)) < 0 ∧ ¬ 20 < (Int32.toInt64 (n)) then 1 else 0)]) rfl ?_
      refine v_st (st' := [.int (if ¬ n < 0 ∧ ¬ 20 < n then 1 else 0)]) (ite_st (inK (a := 0) (b := 20)) _) ?_
      refine v_ifB_ne (pc := 34) 39 dX5_read_34 (by decide) (fun c_34 => ?_) (fun c_34 => ?_)
      · skip
        exact absurd ⟨c_9, c_21, c_34⟩ h_k
      · skip
        refine v_iconst (pc := 37) (v := -1) dX5_read_37 (by decide) ?_
        refine v_iret (pc := 38) dX5_read_38 rfl ⟨rfl, rfl⟩ (Rt.i ?_)
        first | simp only [if_pos c_9, if_pos c_21, if_neg c_34] | rfl
