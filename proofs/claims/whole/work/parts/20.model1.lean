theorem ite_iff {P Q : Prop} [Decidable P] [Decidable Q] (h : P ↔ Q) : (if P then (1 : Int32) else 0) = if Q then 1 else 0 := by
  by_cases p : P
  · rw [if_pos p, if_pos (h.mp p)]
  · rw [if_neg p, if_neg (fun q => p (h.mpr q))]
theorem ite_st {P Q : Prop} [Decidable P] [Decidable Q] (h : P ↔ Q) (st : List Value) : Value.int (if P then (1 : Int32) else 0) :: st = Value.int (if Q then 1 else 0) :: st := by rw [ite_iff h]
theorem inK {x a b : Int32} : (¬ x.toInt64 < a.toInt64 ∧ ¬ b.toInt64 < x.toInt64) ↔ (¬ x < a ∧ ¬ b < x) := by rw [fa_wide_lt, fa_wide_lt]
theorem nI_m1 {b : Nat} (h : 0 < b) : nI b - 1 = nI (b - 1) := pk_sub (b := 1) h
theorem in_okN {x : Int32} {b : Nat} (hb : b < 2 ^ 31) : (¬ x < 0 ∧ ¬ nI b - 1 < x) ↔ okN x b := by
  unfold okN
  cases b with
  | zero =>
    constructor
    · intro h; exact absurd (show nI 0 - 1 < x from Int32.lt_of_lt_of_le (show nI 0 - 1 < 0 by decide) (Int32.not_lt.mp h.1)) h.2
    · intro h; exact absurd (show nI 0 ≤ x from Int32.not_lt.mp h.1) h.2
  | succ b =>
    rw [nI_pred]
    constructor
    · intro h
      refine ⟨h.1, fun q => h.2 (Int32.lt_of_lt_of_le (nI_lt (Nat.lt_succ_self b) hb) q)⟩
    · intro h
      refine ⟨h.1, fun q => ?_⟩
      rcases pk_ix x (n := b + 1) hb with e | e | ⟨j, hj, rfl⟩
      · exact h.1 e
      · exact h.2 e
      · exact absurd ((nI_ltI (by omega) (by omega)).mp q) (by omega)
/-! the model's rows -/
def rO (f : Nat → Int32) : Nat → Int32 := fun k => f (6 + 4 * k)
def rW (f : Nat → Int32) : Nat → Int32 := fun k => f (6 + 4 * k + 1)
def rN (f : Nat → Int32) : Nat → Int32 := fun k => f (6 + 4 * k + 2)
def rB (f : Nat → Int32) : Nat → Int32 := fun k => f (6 + 4 * k + 3)
abbrev hldM (th : Int32) (f : Nat → Int32) (k : Nat) (s : Int32) : Prop := bt1 th (nI k) = 1 ∧ hldP (f 39) (f (6 + 4 * k)) (f (6 + 4 * k + 2)) (f (6 + 4 * k + 3)) s
def hpM (th : Int32) (f : Nat → Int32) (s : Int32) : Nat → Bool := fun k => decide (hldM th f k s)
def outM (rl : Nat) (th : Int32) (f : Nat → Int32) (s : Int32) : Int32 := orF (hpM th f s) (rW f) rl &&& (f 40 ^^^ -1)
theorem or0 (x : Int32) : x ||| 0 = x := by simp
def cntM (p : Nat → Bool) : Nat → Nat
  | 0 => 0
  | n + 1 => cntM p n + if p n = true then 1 else 0
theorem cntM_le (p : Nat → Bool) : ∀ n, cntM p n ≤ n
  | 0 => Nat.le_refl 0
  | n + 1 => by have := cntM_le p n; simp only [cntM]; split <;> omega
def agM (rl : Nat) (th : Int32) (f : Nat → Int32) : Nat → Bool := fun s => decide (outM rl th f (nI s) = nI s)
def begKM (th : Int32) (f : Nat → Int32) (s : Int32) : Nat → Int32 → Int32
  | 0, b => b
  | n + 1, b => if hldM th f n s ∧ f (6 + 4 * n + 2) &&& (begKM th f s n b ^^^ -1) = 0 then begKM th f s n b ||| ((((1 : Int32) <<< (f (6 + 4 * n + 1) &&& 31)) &&& s) &&& (f 40 ^^^ -1)) else begKM th f s n b
def begTM (rl : Nat) (th : Int32) (f : Nat → Int32) (s : Int32) : Nat → Int32
  | 0 => 0
  | t + 1 => begKM th f s rl (begTM rl th f s t)
def wrtM (rl : Nat) (th : Int32) (f : Nat → Int32) (s n : Int32) : Int32 := orF (fun k => hpM th f s k && decide (f (6 + 4 * k + 1) = n)) (rO f) rl
def mkF (f : Nat → Int32) (a : Nat) (n : Int32) (P : Prop) [Decidable P] : Nat → Int32 := upd f a ((f a &&& (((1 : Int32) <<< (n &&& 31)) ^^^ -1)) ||| (if P then (1 : Int32) <<< (n &&& 31) else 0))
def btsK (x : Int32) : Nat → Int32
  | 0 => 0
  | n + 1 => btsK x n + bt1 x (nI n)
def sumM (f : Nat → Int32) (s : Int32) : Nat → Int32
  | 0 => 0
  | n + 1 => sumM f s n + if bt1 s (nI n) = 1 then f n else 0
theorem c_X5_isNote (l : Launch) (E : VE) (m0 : Nat) (ma : Nat) (mp : Nat) (mt : Nat) (mc : Nat) (ml : Nat) (mn : Nat) (mk : Nat) (mg : Nat) (mh : Nat) (mq : Nat) (nt : Nat) (pp : Nat) (tl : Nat) (se : Nat) (th : Int32) (rn : Int32) (ro : Int32) (to : Int32) (wt : Int32) (hn : Int32) (ho : Int32) (fa : Int32) (bk : Int32) (ba : Int32) (spt : Int32) (hre : Int32) (tok : Int32) (val : Int32) (tn : Int32) (x : Int32) (h_nt : nt ≤ 6) : Ct l E yX5_isNote cX5_isNote 2 (Option.some FieldType.boolean) 1 25 0 0 [.ref m0, .int (x)] [(m0, .inr (5, [.ref ma, .int (nI nt), .int (nI pp), .int (th), .ref mp, .int (rn), .int (ro), .int (to), .int (wt), .int (hn), .int (ho), .ref mt, .int (nI tl), .int (fa), .int (bk), .int (ba), .int (spt), .int (hre), .int (tok), .int (val), .ref mc, .ref ml, .ref mn, .int (nI se), .ref mk, .ref mg, .ref mh, .ref mq, .int (tn)]))] (Rt (some (.int (if okN x nt then 1 else 0))) [(m0, .inr (5, [.ref ma, .int (nI nt), .int (nI pp), .int (th), .ref mp, .int (rn), .int (ro), .int (to), .int (wt), .int (hn), .int (ho), .ref mt, .int (nI tl), .int (fa), .int (bk), .int (ba), .int (spt), .int (hre), .int (tok), .int (val), .ref mc, .ref ml, .ref mn, .int (nI se), .ref mk, .ref mg, .ref mh, .ref mq, .int (tn)]))]) := by
  refine Ct.of (own := RX5) (nm := "isNote") (lv := [(0, .ref m0), (1, .int (x))]) (by decide) rfl rfl (Nat.le_of_ble_eq_true rfl) rfl ?_
  refine v_iload_n (pc := 0) 1 dX5_isNote_0 rfl rfl ?_
  refine v_i2l (pc := 1) dX5_isNote_1 ?_
  refine v_lconst (pc := 2) (v := 0) dX5_isNote_2 (by decide) ?_
  refine v_aload_n (pc := 3) 0 dX5_isNote_3 rfl rfl ?_
  refine gf_788 (pc := 4) 0 dX5_isNote_4 rfl rfl ?_
  refine v_iconst (pc := 7) (v := 1) dX5_isNote_7 (by decide) ?_
  refine v_isub (pc := 8) dX5_isNote_8 ?_
  refine v_i2l (pc := 9) dX5_isNote_9 ?_
  refine v_callS (pc := 10) (rest := []) [] lk_880 (c_X5_in l E (Int32.toInt64 (x)) 0 (Int32.toInt64 ((nI nt) - (1)))) dX5_isNote_10 rfl rfl (Nat.le_of_ble_eq_true rfl) (by decide) (by decide) rfl (Rt.len rfl) (Rt.go ?_)
  refine v_w (ws' := [(m0, .inr (5, [.ref ma, .int (nI nt), .int (nI pp), .int (th), .ref mp, .int (rn), .int (ro), .int (to), .int (wt), .int (hn), .int (ho), .ref mt, .int (nI tl), .int (fa), .int (bk), .int (ba), .int (spt), .int (hre), .int (tok), .int (val), .ref mc, .ref ml, .ref mn, .int (nI se), .ref mk, .ref mg, .ref mh, .ref mq, .int (tn)]))]) rfl ?_
  refine v_st (st' := [.int (if ¬ (Int32.toInt64 (x)) < 0 ∧ ¬ (Int32.toInt64 ((nI nt) - (1))) < (Int32.toInt64 (x)) then 1 else 0)]) rfl ?_
  refine v_zret (pc := 13) dX5_isNote_13 rfl (zn01 _) ⟨rfl, rfl⟩ (Rt.i ?_)
  exact ite_iff ((inK (a := 0) (b := nI nt - 1)).trans (in_okN (by omega)))
theorem c_X5_isOne (l : Launch) (E : VE) (m0 : Nat) (ma : Nat) (mp : Nat) (mt : Nat) (mc : Nat) (ml : Nat) (mn : Nat) (mk : Nat) (mg : Nat) (mh : Nat) (mq : Nat) (nt : Nat) (pp : Nat) (tl : Nat) (se : Nat) (th : Int32) (rn : Int32) (ro : Int32) (to : Int32) (wt : Int32) (hn : Int32) (ho : Int32) (fa : Int32) (bk : Int32) (ba : Int32) (spt : Int32) (hre : Int32) (tok : Int32) (val : Int32) (tn : Int32) (x : Int32) (h_pp : pp ≤ 4) : Ct l E yX5_isOne cX5_isOne 2 (Option.some FieldType.boolean) 1 25 0 0 [.ref m0, .int (x)] [(m0, .inr (5, [.ref ma, .int (nI nt), .int (nI pp), .int (th), .ref mp, .int (rn), .int (ro), .int (to), .int (wt), .int (hn), .int (ho), .ref mt, .int (nI tl), .int (fa), .int (bk), .int (ba), .int (spt), .int (hre), .int (tok), .int (val), .ref mc, .ref ml, .ref mn, .int (nI se), .ref mk, .ref mg, .ref mh, .ref mq, .int (tn)]))] (Rt (some (.int (if okN x pp then 1 else 0))) [(m0, .inr (5, [.ref ma, .int (nI nt), .int (nI pp), .int (th), .ref mp, .int (rn), .int (ro), .int (to), .int (wt), .int (hn), .int (ho), .ref mt, .int (nI tl), .int (fa), .int (bk), .int (ba), .int (spt), .int (hre), .int (tok), .int (val), .ref mc, .ref ml, .ref mn, .int (nI se), .ref mk, .ref mg, .ref mh, .ref mq, .int (tn)]))]) := by
  refine Ct.of (own := RX5) (nm := "isOne") (lv := [(0, .ref m0), (1, .int (x))]) (by decide) rfl rfl (Nat.le_of_ble_eq_true rfl) rfl ?_
  refine v_iload_n (pc := 0) 1 dX5_isOne_0 rfl rfl ?_
  refine v_i2l (pc := 1) dX5_isOne_1 ?_
  refine v_lconst (pc := 2) (v := 0) dX5_isOne_2 (by decide) ?_
  refine v_aload_n (pc := 3) 0 dX5_isOne_3 rfl rfl ?_
  refine gf_789 (pc := 4) 0 dX5_isOne_4 rfl rfl ?_
  refine v_iconst (pc := 7) (v := 1) dX5_isOne_7 (by decide) ?_
  refine v_isub (pc := 8) dX5_isOne_8 ?_
  refine v_i2l (pc := 9) dX5_isOne_9 ?_
  refine v_callS (pc := 10) (rest := []) [] lk_880 (c_X5_in l E (Int32.toInt64 (x)) 0 (Int32.toInt64 ((nI pp) - (1)))) dX5_isOne_10 rfl rfl (Nat.le_of_ble_eq_true rfl) (by decide) (by decide) rfl (Rt.len rfl) (Rt.go ?_)
  refine v_w (ws' := [(m0, .inr (5, [.ref ma, .int (nI nt), .int (nI pp), .int (th), .ref mp, .int (rn), .int (ro), .int (to), .int (wt), .int (hn), .int (ho), .ref mt, .int (nI tl), .int (fa), .int (bk), .int (ba), .int (spt), .int (hre), .int (tok), .int (val), .ref mc, .ref ml, .ref mn, .int (nI se), .ref mk, .ref mg, .ref mh, .ref mq, .int (tn)]))]) rfl ?_
  refine v_st (st' := [.int (if ¬ (Int32.toInt64 (x)) < 0 ∧ ¬ (Int32.toInt64 ((nI pp) - (1))) < (Int32.toInt64 (x)) then 1 else 0)]) rfl ?_
  refine v_zret (pc := 13) dX5_isOne_13 rfl (zn01 _) ⟨rfl, rfl⟩ (Rt.i ?_)
  exact ite_iff ((inK (a := 0) (b := nI pp - 1)).trans (in_okN (by omega)))
theorem c_X5_isRule (l : Launch) (E : VE) (m0 : Nat) (ma : Nat) (mp : Nat) (mt : Nat) (mc : Nat) (ml : Nat) (mn : Nat) (mk : Nat) (mg : Nat) (mh : Nat) (mq : Nat) (nt : Nat) (pp : Nat) (rl : Nat) (tl : Nat) (se : Nat) (th : Int32) (rn : Int32) (ro : Int32) (to : Int32) (wt : Int32) (hn : Int32) (ho : Int32) (fa : Int32) (bk : Int32) (ba : Int32) (spt : Int32) (hre : Int32) (tok : Int32) (val : Int32) (tn : Int32) (f : Nat → Int32) (x : Int32) (h_rl : rl ≤ 8) (h_38 : f 38 = nI rl) : Ct l E yX5_isRule cX5_isRule 2 (Option.some FieldType.boolean) 1 25 0 0 [.ref m0, .int (x)] [(m0, .inr (5, [.ref ma, .int (nI nt), .int (nI pp), .int (th), .ref mp, .int (rn), .int (ro), .int (to), .int (wt), .int (hn), .int (ho), .ref mt, .int (nI tl), .int (fa), .int (bk), .int (ba), .int (spt), .int (hre), .int (tok), .int (val), .ref mc, .ref ml, .ref mn, .int (nI se), .ref mk, .ref mg, .ref mh, .ref mq, .int (tn)])), (ma, .inl (E.2.1 1, 172, .inl (f)))] (Rt (some (.int (if okN x rl then 1 else 0))) [(m0, .inr (5, [.ref ma, .int (nI nt), .int (nI pp), .int (th), .ref mp, .int (rn), .int (ro), .int (to), .int (wt), .int (hn), .int (ho), .ref mt, .int (nI tl), .int (fa), .int (bk), .int (ba), .int (spt), .int (hre), .int (tok), .int (val), .ref mc, .ref ml, .ref mn, .int (nI se), .ref mk, .ref mg, .ref mh, .ref mq, .int (tn)])), (ma, .inl (E.2.1 1, 172, .inl (f)))]) := by
  refine Ct.of (own := RX5) (nm := "isRule") (lv := [(0, .ref m0), (1, .int (x))]) (by decide) rfl rfl (Nat.le_of_ble_eq_true rfl) rfl ?_
  refine v_iload_n (pc := 0) 1 dX5_isRule_0 rfl rfl ?_
  refine v_i2l (pc := 1) dX5_isRule_1 ?_
  refine v_lconst (pc := 2) (v := 0) dX5_isRule_2 (by decide) ?_
  refine v_aload_n (pc := 3) 0 dX5_isRule_3 rfl rfl ?_
  refine gf_787 (pc := 4) 0 dX5_isRule_4 rfl rfl ?_
  refine v_bipush (pc := 7) (v := 38) dX5_isRule_7 (by decide) ?_
  refine v_ialdN (pc := 9) 1 1 (38) dX5_isRule_9 rfl rfl rfl (by decide) (by decide) ?_
  refine v_iconst (pc := 10) (v := 1) dX5_isRule_10 (by decide) ?_
  refine v_isub (pc := 11) dX5_isRule_11 ?_
  refine v_i2l (pc := 12) dX5_isRule_12 ?_
  refine v_callS (pc := 13) (rest := []) [] lk_880 (c_X5_in l E (Int32.toInt64 (x)) 0 (Int32.toInt64 ((f 38) - (1)))) dX5_isRule_13 rfl rfl (Nat.le_of_ble_eq_true rfl) (by decide) (by decide) rfl (Rt.len rfl) (Rt.go ?_)
  refine v_w (ws' := [(m0, .inr (5, [.ref ma, .int (nI nt), .int (nI pp), .int (th), .ref mp, .int (rn), .int (ro), .int (to), .int (wt), .int (hn), .int (ho), .ref mt, .int (nI tl), .int (fa), .int (bk), .int (ba), .int (spt), .int (hre), .int (tok), .int (val), .ref mc, .ref ml, .ref mn, .int (nI se), .ref mk, .ref mg, .ref mh, .ref mq, .int (tn)])), (ma, .inl (E.2.1 1, 172, .inl (f)))]) rfl ?_
  refine v_st (st' := [.int (if ¬ (Int32.toInt64 (x)) < 0 ∧ ¬ (Int32.toInt64 ((f 38) - (1))) < (Int32.toInt64 (x)) then 1 else 0)]) rfl ?_
  refine v_zret (pc := 16) dX5_isRule_16 rfl (zn01 _) ⟨rfl, rfl⟩ (Rt.i ?_)
  rw [h_38]; exact ite_iff ((inK (a := 0) (b := nI rl - 1)).trans (in_okN (by omega)))
theorem c_X5_sets (l : Launch) (E : VE) (m0 : Nat) (ma : Nat) (mp : Nat) (mt : Nat) (mc : Nat) (ml : Nat) (mn : Nat) (mk : Nat) (mg : Nat) (mh : Nat) (mq : Nat) (nt : Nat) (pp : Nat) (tl : Nat) (se : Nat) (th : Int32) (rn : Int32) (ro : Int32) (to : Int32) (wt : Int32) (hn : Int32) (ho : Int32) (fa : Int32) (bk : Int32) (ba : Int32) (spt : Int32) (hre : Int32) (tok : Int32) (val : Int32) (tn : Int32) (h_nt : nt ≤ 6) : Ct l E yX5_sets cX5_sets 1 (Option.some FieldType.int) 0 0 0 0 [.ref m0] [(m0, .inr (5, [.ref ma, .int (nI nt), .int (nI pp), .int (th), .ref mp, .int (rn), .int (ro), .int (to), .int (wt), .int (hn), .int (ho), .ref mt, .int (nI tl), .int (fa), .int (bk), .int (ba), .int (spt), .int (hre), .int (tok), .int (val), .ref mc, .ref ml, .ref mn, .int (nI se), .ref mk, .ref mg, .ref mh, .ref mq, .int (tn)]))] (Rt (some (.int (nI (2 ^ nt)))) [(m0, .inr (5, [.ref ma, .int (nI nt), .int (nI pp), .int (th), .ref mp, .int (rn), .int (ro), .int (to), .int (wt), .int (hn), .int (ho), .ref mt, .int (nI tl), .int (fa), .int (bk), .int (ba), .int (spt), .int (hre), .int (tok), .int (val), .ref mc, .ref ml, .ref mn, .int (nI se), .ref mk, .ref mg, .ref mh, .ref mq, .int (tn)]))]) := by
  refine Ct.of (own := RX5) (nm := "sets") (lv := [(0, .ref m0)]) (by decide) rfl rfl (Nat.le_of_ble_eq_true rfl) rfl ?_
  refine v_iconst (pc := 0) (v := 1) dX5_sets_0 (by decide) ?_
  refine v_aload_n (pc := 1) 0 dX5_sets_1 rfl rfl ?_
  refine gf_788 (pc := 2) 0 dX5_sets_2 rfl rfl ?_
  refine v_ishl (pc := 5) dX5_sets_5 ?_
  refine v_iret (pc := 6) dX5_sets_6 rfl ⟨rfl, rfl⟩ (Rt.i ?_)
  exact pw31 nt (by omega)
theorem c_X5_isSet (l : Launch) (E : VE) (m0 : Nat) (ma : Nat) (mp : Nat) (mt : Nat) (mc : Nat) (ml : Nat) (mn : Nat) (mk : Nat) (mg : Nat) (mh : Nat) (mq : Nat) (nt : Nat) (pp : Nat) (tl : Nat) (se : Nat) (th : Int32) (rn : Int32) (ro : Int32) (to : Int32) (wt : Int32) (hn : Int32) (ho : Int32) (fa : Int32) (bk : Int32) (ba : Int32) (spt : Int32) (hre : Int32) (tok : Int32) (val : Int32) (tn : Int32) (x : Int32) (h_nt : nt ≤ 6) : Ct l E yX5_isSet cX5_isSet 2 (Option.some FieldType.boolean) 1 25 0 0 [.ref m0, .int (x)] [(m0, .inr (5, [.ref ma, .int (nI nt), .int (nI pp), .int (th), .ref mp, .int (rn), .int (ro), .int (to), .int (wt), .int (hn), .int (ho), .ref mt, .int (nI tl), .int (fa), .int (bk), .int (ba), .int (spt), .int (hre), .int (tok), .int (val), .ref mc, .ref ml, .ref mn, .int (nI se), .ref mk, .ref mg, .ref mh, .ref mq, .int (tn)]))] (Rt (some (.int (if ¬ x < 0 ∧ ¬ nI (2 ^ nt - 1) < x then 1 else 0))) [(m0, .inr (5, [.ref ma, .int (nI nt), .int (nI pp), .int (th), .ref mp, .int (rn), .int (ro), .int (to), .int (wt), .int (hn), .int (ho), .ref mt, .int (nI tl), .int (fa), .int (bk), .int (ba), .int (spt), .int (hre), .int (tok), .int (val), .ref mc, .ref ml, .ref mn, .int (nI se), .ref mk, .ref mg, .ref mh, .ref mq, .int (tn)]))]) := by
  refine Ct.of (own := RX5) (nm := "isSet") (lv := [(0, .ref m0), (1, .int (x))]) (by decide) rfl rfl (Nat.le_of_ble_eq_true rfl) rfl ?_
  refine v_iload_n (pc := 0) 1 dX5_isSet_0 rfl rfl ?_
  refine v_i2l (pc := 1) dX5_isSet_1 ?_
  refine v_lconst (pc := 2) (v := 0) dX5_isSet_2 (by decide) ?_
  refine v_aload_n (pc := 3) 0 dX5_isSet_3 rfl rfl ?_
  refine v_callV (pc := 4) (rest := [.long (0), .long (Int32.toInt64 (x))]) [0] 0 lk_1024 (c_X5_sets l E m0 ma mp mt mc ml mn mk mg mh mq nt pp tl se th rn ro to wt hn ho fa bk ba spt hre tok val tn (by first | assumption | omega)) dX5_isSet_4 rfl rfl (Nat.le_of_ble_eq_true rfl) (by decide) rfl rfl rfl (by decide) rfl (Rt.len rfl) (Rt.go ?_)
  refine v_w (ws' := [(m0, .inr (5, [.ref ma, .int (nI nt), .int (nI pp), .int (th), .ref mp, .int (rn), .int (ro), .int (to), .int (wt), .int (hn), .int (ho), .ref mt, .int (nI tl), .int (fa), .int (bk), .int (ba), .int (spt), .int (hre), .int (tok), .int (val), .ref mc, .ref ml, .ref mn, .int (nI se), .ref mk, .ref mg, .ref mh, .ref mq, .int (tn)]))]) rfl ?_
  refine v_st (st' := [.int (nI (2 ^ nt)), .long (0), .long (Int32.toInt64 (x))]) rfl ?_
  refine v_iconst (pc := 7) (v := 1) dX5_isSet_7 (by decide) ?_
  refine v_isub (pc := 8) dX5_isSet_8 ?_
  refine v_i2l (pc := 9) dX5_isSet_9 ?_
  refine v_callS (pc := 10) (rest := []) [] lk_880 (c_X5_in l E (Int32.toInt64 (x)) 0 (Int32.toInt64 ((nI (2 ^ nt)) - (1)))) dX5_isSet_10 rfl rfl (Nat.le_of_ble_eq_true rfl) (by decide) (by decide) rfl (Rt.len rfl) (Rt.go ?_)
  refine v_w (ws' := [(m0, .inr (5, [.ref ma, .int (nI nt), .int (nI pp), .int (th), .ref mp, .int (rn), .int (ro), .int (to), .int (wt), .int (hn), .int (ho), .ref mt, .int (nI tl), .int (fa), .int (bk), .int (ba), .int (spt), .int (hre), .int (tok), .int (val), .ref mc, .ref ml, .ref mn, .int (nI se), .ref mk, .ref mg, .ref mh, .ref mq, .int (tn)]))]) rfl ?_
  refine v_st (st' := [.int (if ¬ (Int32.toInt64 (x)) < 0 ∧ ¬ (Int32.toInt64 ((nI (2 ^ nt)) - (1))) < (Int32.toInt64 (x)) then 1 else 0)]) rfl ?_
  refine v_zret (pc := 13) dX5_isSet_13 rfl (zn01 _) ⟨rfl, rfl⟩ (Rt.i ?_)
  rw [nI_m1 (p1 nt)]; exact ite_iff (inK (a := 0) (b := nI (2 ^ nt - 1)))
theorem c_X5_rule (l : Launch) (E : VE) (m0 : Nat) (ma : Nat) (mp : Nat) (mt : Nat) (mc : Nat) (ml : Nat) (mn : Nat) (mk : Nat) (mg : Nat) (mh : Nat) (mq : Nat) (nt : Nat) (pp : Nat) (tl : Nat) (se : Nat) (th : Int32) (rn : Int32) (ro : Int32) (to : Int32) (wt : Int32) (hn : Int32) (ho : Int32) (fa : Int32) (bk : Int32) (ba : Int32) (spt : Int32) (hre : Int32) (tok : Int32) (val : Int32) (tn : Int32) (f : Nat → Int32) (x : Int32) : Ct l E yX5_rule cX5_rule 2 (Option.some FieldType.int) 1 25 0 0 [.ref m0, .int (x)] [(m0, .inr (5, [.ref ma, .int (nI nt), .int (nI pp), .int (th), .ref mp, .int (rn), .int (ro), .int (to), .int (wt), .int (hn), .int (ho), .ref mt, .int (nI tl), .int (fa), .int (bk), .int (ba), .int (spt), .int (hre), .int (tok), .int (val), .ref mc, .ref ml, .ref mn, .int (nI se), .ref mk, .ref mg, .ref mh, .ref mq, .int (tn)])), (ma, .inl (E.2.1 1, 172, .inl (f)))] (Rt (some (.int (if x = 0 then nI nt else if x = 1 then nI pp else if ¬ x < 2 ∧ ¬ 6 < x then f (36 + x.toNatClampNeg) else -1))) [(m0, .inr (5, [.ref ma, .int (nI nt), .int (nI pp), .int (th), .ref mp, .int (rn), .int (ro), .int (to), .int (wt), .int (hn), .int (ho), .ref mt, .int (nI tl), .int (fa), .int (bk), .int (ba), .int (spt), .int (hre), .int (tok), .int (val), .ref mc, .ref ml, .ref mn, .int (nI se), .ref mk, .ref mg, .ref mh, .ref mq, .int (tn)])), (ma, .inl (E.2.1 1, 172, .inl (f)))]) := by
  refine Ct.of (own := RX5) (nm := "rule") (lv := [(0, .ref m0), (1, .int (x))]) (by decide) rfl rfl (Nat.le_of_ble_eq_true rfl) rfl ?_
  refine v_iload_n (pc := 0) 1 dX5_rule_0 rfl rfl ?_
  by_cases c_1_0 : x = 0
  · skip
    refine v_lookup (pc := 1) (off := 27) 28 dX5_rule_1 (by decide) (by rw [c_1_0]; decide) (by decide) ?_
    refine v_aload_n (pc := 28) 0 dX5_rule_28 rfl rfl ?_
    refine gf_788 (pc := 29) 0 dX5_rule_29 rfl rfl ?_
    refine v_iret (pc := 32) dX5_rule_32 rfl ⟨rfl, rfl⟩ (Rt.i ?_)
    first | simp only [if_pos c_1_0] | rfl
  by_cases c_1_1 : x = 1
  · skip
    refine v_lookup (pc := 1) (off := 32) 33 dX5_rule_1 (by decide) (by rw [c_1_1]; decide) (by decide) ?_
    refine v_aload_n (pc := 33) 0 dX5_rule_33 rfl rfl ?_
    refine gf_789 (pc := 34) 0 dX5_rule_34 rfl rfl ?_
    refine v_iret (pc := 37) dX5_rule_37 rfl ⟨rfl, rfl⟩ (Rt.i ?_)
    first | simp only [if_neg c_1_0, if_pos c_1_1] | rfl
  refine v_lookup (pc := 1) (off := 37) 38 dX5_rule_1 (by decide) (by rw [lv_osw c_1_0 (by decide)]; rw [lv_osw c_1_1 (by decide)]; rfl) (by decide) ?_
  refine v_iload_n (pc := 38) 1 dX5_rule_38 rfl rfl ?_
  refine v_i2l (pc := 39) dX5_rule_39 ?_
  refine v_ldc2 (pc := 40) dX5_rule_40 tb_948 ?_
  refine v_ldc2 (pc := 43) dX5_rule_43 tb_915 ?_
  refine v_callS (pc := 46) (rest := []) [] lk_880 (c_X5_in l E (Int32.toInt64 (x)) 2 6) dX5_rule_46 rfl rfl (Nat.le_of_ble_eq_true rfl) (by decide) (by decide) rfl (Rt.len rfl) (Rt.go ?_)
  refine v_w (ws' := [(m0, .inr (5, [.ref ma, .int (nI nt), .int (nI pp), .int (th), .ref mp, .int (rn), .int (ro), .int (to), .int (wt), .int (hn), .int (ho), .ref mt, .int (nI tl), .int (fa), .int (bk), .int (ba), .int (spt), .int (hre), .int (tok), .int (val), .ref mc, .ref ml, .ref mn, .int (nI se), .ref mk, .ref mg, .ref mh, .ref mq, .int (tn)])), (ma, .inl (E.2.1 1, 172, .inl (f)))]) rfl ?_
  refine v_st (st' := [.int (if ¬ (Int32.toInt64 (x)) < 2 ∧ ¬ 6 < (Int32.toInt64 (x)) then 1 else 0)]) rfl ?_
  refine v_st (st' := [.int (if ¬ x < 2 ∧ ¬ 6 < x then 1 else 0)]) (ite_st (inK (a := 2) (b := 6)) _) ?_
  refine v_ifB_eq (pc := 49) 66 dX5_rule_49 (by decide) (fun c_49 => ?_) (fun c_49 => ?_)
  · skip
    refine v_iconst (pc := 66) (v := -1) dX5_rule_66 (by decide) ?_
    refine v_iret (pc := 67) dX5_rule_67 rfl ⟨rfl, rfl⟩ (Rt.i ?_)
    rw [if_neg c_1_0, if_neg c_1_1, if_neg c_49]
  · skip
    obtain ⟨k, hk, rfl⟩ := le_ex (b := 6) (fun z => c_49.1 (Int32.lt_trans z (by decide))) c_49.2 (by decide)
    have hk2 : 2 ≤ k := by
      rcases Nat.lt_or_ge k 2 with z | z
      · exact absurd (show nI k < nI 2 from nI_lt z (by decide)) c_49.1
      · exact z
    refine v_aload_n (pc := 52) 0 dX5_rule_52 rfl rfl ?_
    refine gf_787 (pc := 53) 0 dX5_rule_53 rfl rfl ?_
    refine v_bipush (pc := 56) (v := 38) dX5_rule_56 (by decide) ?_
    refine v_iload_n (pc := 58) 1 dX5_rule_58 rfl rfl ?_
    refine v_iadd (pc := 59) dX5_rule_59 ?_
    refine v_st (st' := [.int (nI (38 + k)), .ref ma]) (congrArg (fun z => Value.int z :: _) (nI_add 38 k)) ?_
    refine v_iconst (pc := 60) (v := 2) dX5_rule_60 (by decide) ?_
    refine v_isub (pc := 61) dX5_rule_61 ?_
    refine v_st (st' := [.int (nI (36 + k)), .ref ma]) (by rw [show (2 : Int32) = nI 2 from rfl, pk_sub (by omega)]; exact congrArg (fun z => Value.int (nI z) :: _) (by omega)) ?_
    refine v_ialdN (pc := 62) 1 1 (36 + k) dX5_rule_62 rfl rfl rfl (by omega) (by decide) ?_
    refine v_goto (pc := 63) 67 dX5_rule_63 (by decide) ?_
    refine v_iret (pc := 67) dX5_rule_67 rfl ⟨rfl, rfl⟩ (Rt.i ?_)
    rw [if_neg c_1_0, if_neg c_1_1, if_pos c_49, nI_clamp (by omega)]
theorem c_X5_holds (l : Launch) (E : VE) (m0 : Nat) (ma : Nat) (mp : Nat) (mt : Nat) (mc : Nat) (ml : Nat) (mn : Nat) (mk : Nat) (mg : Nat) (mh : Nat) (mq : Nat) (nt : Nat) (pp : Nat) (tl : Nat) (se : Nat) (th : Int32) (rn : Int32) (ro : Int32) (to : Int32) (wt : Int32) (hn : Int32) (ho : Int32) (fa : Int32) (bk : Int32) (ba : Int32) (spt : Int32) (hre : Int32) (tok : Int32) (val : Int32) (tn : Int32) (f : Nat → Int32) (k : Nat) (x : Int32) (h_k : k < 8) : Ct l E yX5_holds cX5_holds 5 (Option.some FieldType.boolean) 0 0 0 0 [.ref m0, .int (nI k), .int (x)] [(m0, .inr (5, [.ref ma, .int (nI nt), .int (nI pp), .int (th), .ref mp, .int (rn), .int (ro), .int (to), .int (wt), .int (hn), .int (ho), .ref mt, .int (nI tl), .int (fa), .int (bk), .int (ba), .int (spt), .int (hre), .int (tok), .int (val), .ref mc, .ref ml, .ref mn, .int (nI se), .ref mk, .ref mg, .ref mh, .ref mq, .int (tn)])), (ma, .inl (E.2.1 1, 172, .inl (f)))] (Rt (some (.int (if hldM th f k x then 1 else 0))) [(m0, .inr (5, [.ref ma, .int (nI nt), .int (nI pp), .int (th), .ref mp, .int (rn), .int (ro), .int (to), .int (wt), .int (hn), .int (ho), .ref mt, .int (nI tl), .int (fa), .int (bk), .int (ba), .int (spt), .int (hre), .int (tok), .int (val), .ref mc, .ref ml, .ref mn, .int (nI se), .ref mk, .ref mg, .ref mh, .ref mq, .int (tn)])), (ma, .inl (E.2.1 1, 172, .inl (f)))]) := by
  refine Ct.of (own := RX5) (nm := "holds") (lv := [(0, .ref m0), (1, .int (nI k)), (2, .int (x))]) (by decide) rfl rfl (Nat.le_of_ble_eq_true rfl) rfl ?_
  refine v_bipush (pc := 0) (v := 6) dX5_holds_0 (by decide) ?_
  refine v_iconst (pc := 2) (v := 4) dX5_holds_2 (by decide) ?_
  refine v_iload_n (pc := 3) 1 dX5_holds_3 rfl rfl ?_
  refine v_imul (pc := 4) dX5_holds_4 ?_
  refine v_st (st' := [.int (nI (4 * k)), .int (6)]) (congrArg (fun z => Value.int z :: _) (pk_mul 4 k)) ?_
  refine v_iadd (pc := 5) dX5_holds_5 ?_
  refine v_st (st' := [.int (nI (6 + (4 * k)))]) (congrArg (fun z => Value.int z :: _) (nI_add 6 (4 * k))) ?_
  refine v_istore_n (pc := 6) (lv' := [(3, .int (nI (6 + (4 * k)))), (0, .ref m0), (1, .int (nI k)), (2, .int (x))]) dX5_holds_6 rfl (by decide) rfl ?_
  refine v_aload_n (pc := 7) 1 dX5_holds_7 rfl rfl ?_
  refine gf_790 (pc := 8) 0 dX5_holds_8 rfl rfl ?_
  refine v_iload_n (pc := 11) 2 dX5_holds_11 rfl rfl ?_
  refine v_ishr (pc := 12) dX5_holds_12 ?_
  refine v_iconst (pc := 13) (v := 1) dX5_holds_13 (by decide) ?_
  refine v_iand (pc := 14) dX5_holds_14 ?_
  refine v_iconst (pc := 15) (v := 1) dX5_holds_15 (by decide) ?_
  refine v_icmp_ne (pc := 16) 42 dX5_holds_16 (by decide) (fun c_16 => ?_) (fun c_16 => ?_)
  · skip
    refine v_iconst (pc := 42) (v := 0) dX5_holds_42 (by decide) ?_
    refine v_istore (pc := 43) (lv' := [(4, .int (0)), (3, .int (nI (6 + (4 * k)))), (0, .ref m0), (1, .int (nI k)), (2, .int (x))]) dX5_holds_43 (by decide) rfl ?_
    refine v_iload (pc := 45) 0 dX5_holds_45 rfl ?_
    refine v_if_eq (pc := 47) 82 dX5_holds_47 (by decide) (fun _ => ?_) (fun c => absurd c (by decide))
    refine v_iconst (pc := 82) (v := 0) dX5_holds_82 (by decide) ?_
    refine v_zret (pc := 83) dX5_holds_83 rfl rfl ⟨rfl, rfl⟩ (Rt.i ?_)
    exact (if_neg (fun q => c_16 q.1)).symm
  · skip
    refine v_aload_n (pc := 19) 1 dX5_holds_19 rfl rfl ?_
    refine gf_787 (pc := 20) 0 dX5_holds_20 rfl rfl ?_
    refine v_bipush (pc := 23) (v := 39) dX5_holds_23 (by decide) ?_
    refine v_ialdN (pc := 25) 1 1 (39) dX5_holds_25 rfl rfl rfl (by decide) (by decide) ?_
    refine v_aload_n (pc := 26) 1 dX5_holds_26 rfl rfl ?_
    refine gf_787 (pc := 27) 0 dX5_holds_27 rfl rfl ?_
    refine v_iload_n (pc := 30) 0 dX5_holds_30 rfl rfl ?_
    refine v_ialdN (pc := 31) 1 1 (6 + (4 * k)) dX5_holds_31 rfl rfl rfl (by omega) (by decide) ?_
    refine v_ishr (pc := 32) dX5_holds_32 ?_
    refine v_iconst (pc := 33) (v := 1) dX5_holds_33 (by decide) ?_
    refine v_iand (pc := 34) dX5_holds_34 ?_
    refine v_if_ne (pc := 35) 42 dX5_holds_35 (by decide) (fun c_35 => ?_) (fun c_35 => ?_)
    · skip
      refine v_iconst (pc := 42) (v := 0) dX5_holds_42 (by decide) ?_
      refine v_istore (pc := 43) (lv' := [(4, .int (0)), (3, .int (nI (6 + (4 * k)))), (0, .ref m0), (1, .int (nI k)), (2, .int (x))]) dX5_holds_43 (by decide) rfl ?_
      refine v_iload (pc := 45) 0 dX5_holds_45 rfl ?_
      refine v_if_eq (pc := 47) 82 dX5_holds_47 (by decide) (fun _ => ?_) (fun c => absurd c (by decide))
      refine v_iconst (pc := 82) (v := 0) dX5_holds_82 (by decide) ?_
      refine v_zret (pc := 83) dX5_holds_83 rfl rfl ⟨rfl, rfl⟩ (Rt.i ?_)
      exact (if_neg (fun q => c_35 q.2.1)).symm
    · skip
      refine v_iconst (pc := 38) (v := 1) dX5_holds_38 (by decide) ?_
      refine v_goto (pc := 39) 43 dX5_holds_39 (by decide) ?_
      refine v_istore (pc := 43) (lv' := [(4, .int (1)), (3, .int (nI (6 + (4 * k)))), (0, .ref m0), (1, .int (nI k)), (2, .int (x))]) dX5_holds_43 (by decide) rfl ?_
      refine v_iload (pc := 45) 0 dX5_holds_45 rfl ?_
      refine v_if_eq (pc := 47) 82 dX5_holds_47 (by decide) (fun c => absurd c (by decide)) (fun _ => ?_)
      refine v_aload_n (pc := 50) 2 dX5_holds_50 rfl rfl ?_
      refine gf_787 (pc := 51) 0 dX5_holds_51 rfl rfl ?_
      refine v_iload_n (pc := 54) 1 dX5_holds_54 rfl rfl ?_
      refine v_iconst (pc := 55) (v := 2) dX5_holds_55 (by decide) ?_
      refine v_iadd (pc := 56) dX5_holds_56 ?_
      refine v_st (st' := [.int (nI ((6 + (4 * k)) + 2)), .ref ma]) (congrArg (fun z => Value.int z :: _) (nI_add (6 + (4 * k)) 2)) ?_
      refine v_ialdN (pc := 57) 1 1 ((6 + (4 * k)) + 2) dX5_holds_57 rfl rfl rfl (by omega) (by decide) ?_
      refine v_iload_n (pc := 58) 4 dX5_holds_58 rfl rfl ?_
      refine v_iconst (pc := 59) (v := -1) dX5_holds_59 (by decide) ?_
      refine v_ixor (pc := 60) dX5_holds_60 ?_
      refine v_iand (pc := 61) dX5_holds_61 ?_
      refine v_if_ne (pc := 62) 82 dX5_holds_62 (by decide) (fun c_62 => ?_) (fun c_62 => ?_)
      · skip
        refine v_iconst (pc := 82) (v := 0) dX5_holds_82 (by decide) ?_
        refine v_zret (pc := 83) dX5_holds_83 rfl rfl ⟨rfl, rfl⟩ (Rt.i ?_)
        exact (if_neg (fun q => c_62 q.2.2.1)).symm
      · skip
        refine v_aload_n (pc := 65) 2 dX5_holds_65 rfl rfl ?_
        refine gf_787 (pc := 66) 0 dX5_holds_66 rfl rfl ?_
        refine v_iload_n (pc := 69) 1 dX5_holds_69 rfl rfl ?_
        refine v_iconst (pc := 70) (v := 3) dX5_holds_70 (by decide) ?_
        refine v_iadd (pc := 71) dX5_holds_71 ?_
        refine v_st (st' := [.int (nI ((6 + (4 * k)) + 3)), .ref ma]) (congrArg (fun z => Value.int z :: _) (nI_add (6 + (4 * k)) 3)) ?_
        refine v_ialdN (pc := 72) 1 1 ((6 + (4 * k)) + 3) dX5_holds_72 rfl rfl rfl (by omega) (by decide) ?_
        refine v_iload_n (pc := 73) 4 dX5_holds_73 rfl rfl ?_
        refine v_iand (pc := 74) dX5_holds_74 ?_
        refine v_if_ne (pc := 75) 82 dX5_holds_75 (by decide) (fun c_75 => ?_) (fun c_75 => ?_)
        · skip
          refine v_iconst (pc := 82) (v := 0) dX5_holds_82 (by decide) ?_
          refine v_zret (pc := 83) dX5_holds_83 rfl rfl ⟨rfl, rfl⟩ (Rt.i ?_)
          exact (if_neg (fun q => c_75 q.2.2.2)).symm
        · skip
          refine v_iconst (pc := 78) (v := 1) dX5_holds_78 (by decide) ?_
          refine v_goto (pc := 79) 83 dX5_holds_79 (by decide) ?_
          refine v_zret (pc := 83) dX5_holds_83 rfl rfl ⟨rfl, rfl⟩ (Rt.i ?_)
          exact (if_pos ⟨c_16, c_35, c_62, c_75⟩).symm
theorem c_X5_noteOf (l : Launch) (E : VE) (m0 : Nat) (ma : Nat) (mp : Nat) (mt : Nat) (mc : Nat) (ml : Nat) (mn : Nat) (mk : Nat) (mg : Nat) (mh : Nat) (mq : Nat) (nt : Nat) (pp : Nat) (tl : Nat) (se : Nat) (th : Int32) (rn : Int32) (ro : Int32) (to : Int32) (wt : Int32) (hn : Int32) (ho : Int32) (fa : Int32) (bk : Int32) (ba : Int32) (spt : Int32) (hre : Int32) (tok : Int32) (val : Int32) (tn : Int32) (f : Nat → Int32) (k : Nat) (h_k : k < 8) : Ct l E yX5_noteOf cX5_noteOf 2 (Option.some FieldType.int) 0 0 0 0 [.ref m0, .int (nI k)] [(m0, .inr (5, [.ref ma, .int (nI nt), .int (nI pp), .int (th), .ref mp, .int (rn), .int (ro), .int (to), .int (wt), .int (hn), .int (ho), .ref mt, .int (nI tl), .int (fa), .int (bk), .int (ba), .int (spt), .int (hre), .int (tok), .int (val), .ref mc, .ref ml, .ref mn, .int (nI se), .ref mk, .ref mg, .ref mh, .ref mq, .int (tn)])), (ma, .inl (E.2.1 1, 172, .inl (f)))] (Rt (some (.int (f (6 + 4 * k + 1)))) [(m0, .inr (5, [.ref ma, .int (nI nt), .int (nI pp), .int (th), .ref mp, .int (rn), .int (ro), .int (to), .int (wt), .int (hn), .int (ho), .ref mt, .int (nI tl), .int (fa), .int (bk), .int (ba), .int (spt), .int (hre), .int (tok), .int (val), .ref mc, .ref ml, .ref mn, .int (nI se), .ref mk, .ref mg, .ref mh, .ref mq, .int (tn)])), (ma, .inl (E.2.1 1, 172, .inl (f)))]) := by
  refine Ct.of (own := RX5) (nm := "noteOf") (lv := [(0, .ref m0), (1, .int (nI k))]) (by decide) rfl rfl (Nat.le_of_ble_eq_true rfl) rfl ?_
  refine v_aload_n (pc := 0) 0 dX5_noteOf_0 rfl rfl ?_
  refine gf_787 (pc := 1) 0 dX5_noteOf_1 rfl rfl ?_
  refine v_bipush (pc := 4) (v := 6) dX5_noteOf_4 (by decide) ?_
  refine v_iconst (pc := 6) (v := 4) dX5_noteOf_6 (by decide) ?_
  refine v_iload_n (pc := 7) 1 dX5_noteOf_7 rfl rfl ?_
  refine v_imul (pc := 8) dX5_noteOf_8 ?_
  refine v_st (st' := [.int (nI (4 * k)), .int (6), .ref ma]) (congrArg (fun z => Value.int z :: _) (pk_mul 4 k)) ?_
  refine v_iadd (pc := 9) dX5_noteOf_9 ?_
  refine v_st (st' := [.int (nI (6 + (4 * k))), .ref ma]) (congrArg (fun z => Value.int z :: _) (nI_add 6 (4 * k))) ?_
  refine v_iconst (pc := 10) (v := 1) dX5_noteOf_10 (by decide) ?_
  refine v_iadd (pc := 11) dX5_noteOf_11 ?_
  refine v_st (st' := [.int (nI ((6 + (4 * k)) + 1)), .ref ma]) (congrArg (fun z => Value.int z :: _) (nI_add (6 + (4 * k)) 1)) ?_
  refine v_ialdN (pc := 12) 1 1 ((6 + (4 * k)) + 1) dX5_noteOf_12 rfl rfl rfl (by omega) (by decide) ?_
  refine v_iret (pc := 13) dX5_noteOf_13 rfl ⟨rfl, rfl⟩ (Rt.i ?_)
  rfl
theorem c_X5_broughtBy (l : Launch) (E : VE) (m0 : Nat) (ma : Nat) (mp : Nat) (mt : Nat) (mc : Nat) (ml : Nat) (mn : Nat) (mk : Nat) (mg : Nat) (mh : Nat) (mq : Nat) (nt : Nat) (pp : Nat) (rl : Nat) (tl : Nat) (se : Nat) (th : Int32) (rn : Int32) (ro : Int32) (to : Int32) (wt : Int32) (hn : Int32) (ho : Int32) (fa : Int32) (bk : Int32) (ba : Int32) (spt : Int32) (hre : Int32) (tok : Int32) (val : Int32) (tn : Int32) (f : Nat → Int32) (x : Int32) (h_rl : rl ≤ 8) (h_38 : f 38 = nI rl) : Ct l E yX5_broughtBy cX5_broughtBy 4 (Option.some FieldType.int) 1 24 0 0 [.ref m0, .int (x)] [(m0, .inr (5, [.ref ma, .int (nI nt), .int (nI pp), .int (th), .ref mp, .int (rn), .int (ro), .int (to), .int (wt), .int (hn), .int (ho), .ref mt, .int (nI tl), .int (fa), .int (bk), .int (ba), .int (spt), .int (hre), .int (tok), .int (val), .ref mc, .ref ml, .ref mn, .int (nI se), .ref mk, .ref mg, .ref mh, .ref mq, .int (tn)])), (ma, .inl (E.2.1 1, 172, .inl (f)))] (Rt (some (.int (outM rl th f x))) [(m0, .inr (5, [.ref ma, .int (nI nt), .int (nI pp), .int (th), .ref mp, .int (rn), .int (ro), .int (to), .int (wt), .int (hn), .int (ho), .ref mt, .int (nI tl), .int (fa), .int (bk), .int (ba), .int (spt), .int (hre), .int (tok), .int (val), .ref mc, .ref ml, .ref mn, .int (nI se), .ref mk, .ref mg, .ref mh, .ref mq, .int (tn)])), (ma, .inl (E.2.1 1, 172, .inl (f)))]) := by
  refine Ct.of (own := RX5) (nm := "broughtBy") (lv := [(0, .ref m0), (1, .int (x))]) (by decide) rfl rfl (Nat.le_of_ble_eq_true rfl) rfl ?_
  refine v_iconst (pc := 0) (v := 0) dX5_broughtBy_0 (by decide) ?_
  refine v_istore_n (pc := 1) (lv' := [(2, .int (0)), (0, .ref m0), (1, .int (x))]) dX5_broughtBy_1 rfl (by decide) rfl ?_
  refine v_iconst (pc := 2) (v := 0) dX5_broughtBy_2 (by decide) ?_
  refine v_istore_n (pc := 3) (lv' := [(3, .int (0)), (2, .int (0)), (0, .ref m0), (1, .int (x))]) dX5_broughtBy_3 rfl (by decide) rfl ?_
  have loop_4 : ∀ (D_4 : Nat) (i : Nat) (acc : Int32), rl - i < D_4 → (i ≤ rl) → (acc = orF (hpM th f x) (rW f) i) → V l E RX5 cX5_broughtBy 4 (Option.some FieldType.int) "broughtBy" ({ frames := 1, cells := 0, slots := 0, locals := 24 }) [(m0, .inr (5, [.ref ma, .int (nI nt), .int (nI pp), .int (th), .ref mp, .int (rn), .int (ro), .int (to), .int (wt), .int (hn), .int (ho), .ref mt, .int (nI tl), .int (fa), .int (bk), .int (ba), .int (spt), .int (hre), .int (tok), .int (val), .ref mc, .ref ml, .ref mn, .int (nI se), .ref mk, .ref mg, .ref mh, .ref mq, .int (tn)])), (ma, .inl (E.2.1 1, 172, .inl (f)))] 0 0 (Rt (some (.int (outM rl th f x))) [(m0, .inr (5, [.ref ma, .int (nI nt), .int (nI pp), .int (th), .ref mp, .int (rn), .int (ro), .int (to), .int (wt), .int (hn), .int (ho), .ref mt, .int (nI tl), .int (fa), .int (bk), .int (ba), .int (spt), .int (hre), .int (tok), .int (val), .ref mc, .ref ml, .ref mn, .int (nI se), .ref mk, .ref mg, .ref mh, .ref mq, .int (tn)])), (ma, .inl (E.2.1 1, 172, .inl (f)))]) 0 0 4 [(3, .int (nI i)), (2, .int (acc)), (0, .ref m0), (1, .int (x))] [] [(m0, .inr (5, [.ref ma, .int (nI nt), .int (nI pp), .int (th), .ref mp, .int (rn), .int (ro), .int (to), .int (wt), .int (hn), .int (ho), .ref mt, .int (nI tl), .int (fa), .int (bk), .int (ba), .int (spt), .int (hre), .int (tok), .int (val), .ref mc, .ref ml, .ref mn, .int (nI se), .ref mk, .ref mg, .ref mh, .ref mq, .int (tn)])), (ma, .inl (E.2.1 1, 172, .inl (f)))] := by
    intro D_4
    induction D_4 with
    | zero => intro i acc h; exact absurd h (Nat.not_lt_zero _)
    | succ D_4 ih_4 =>
      intro i acc hmu_4 h_4_0 h_4_1
      refine v_iload_n (pc := 4) 0 dX5_broughtBy_4 rfl rfl ?_
      refine v_aload_n (pc := 5) 2 dX5_broughtBy_5 rfl rfl ?_
      refine gf_787 (pc := 6) 0 dX5_broughtBy_6 rfl rfl ?_
      refine v_bipush (pc := 9) (v := 38) dX5_broughtBy_9 (by decide) ?_
      refine v_ialdN (pc := 11) 1 1 (38) dX5_broughtBy_11 rfl rfl rfl (by decide) (by decide) ?_
      refine v_st (st' := [.int (nI rl), .int (nI i)]) (by rw [h_38]) ?_
      refine v_cmpN_ge (pc := 12) (a := i) (b := rl) 44 dX5_broughtBy_12 (by decide) (by omega) (by omega) (fun c_12 => ?_) (fun c_12 => ?_)
      · skip
        refine v_iload_n (pc := 44) 1 dX5_broughtBy_44 rfl rfl ?_
        refine v_aload_n (pc := 45) 2 dX5_broughtBy_45 rfl rfl ?_
        refine gf_787 (pc := 46) 0 dX5_broughtBy_46 rfl rfl ?_
        refine v_bipush (pc := 49) (v := 40) dX5_broughtBy_49 (by decide) ?_
        refine v_ialdN (pc := 51) 1 1 (40) dX5_broughtBy_51 rfl rfl rfl (by decide) (by decide) ?_
        refine v_iconst (pc := 52) (v := -1) dX5_broughtBy_52 (by decide) ?_
        refine v_ixor (pc := 53) dX5_broughtBy_53 ?_
        refine v_iand (pc := 54) dX5_broughtBy_54 ?_
        refine v_iret (pc := 55) dX5_broughtBy_55 rfl ⟨rfl, rfl⟩ (Rt.i ?_)
        obtain rfl : i = rl := by omega
        rw [h_4_1]; rfl
      · skip
        refine v_iload_n (pc := 15) 1 dX5_broughtBy_15 rfl rfl ?_
        refine v_aload_n (pc := 16) 2 dX5_broughtBy_16 rfl rfl ?_
        refine v_iload_n (pc := 17) 0 dX5_broughtBy_17 rfl rfl ?_
        refine v_iload_n (pc := 18) 3 dX5_broughtBy_18 rfl rfl ?_
        refine v_callV (pc := 19) (rest := [.int (acc)]) [0, 1] 0 lk_958 (c_X5_holds l E m0 ma mp mt mc ml mn mk mg mh mq nt pp tl se th rn ro to wt hn ho fa bk ba spt hre tok val tn f i x (by omega)) dX5_broughtBy_19 rfl rfl (Nat.le_of_ble_eq_true rfl) (by decide) rfl rfl rfl (by decide) rfl (Rt.len rfl) (Rt.go ?_)
        refine v_w (ws' := [(m0, .inr (5, [.ref ma, .int (nI nt), .int (nI pp), .int (th), .ref mp, .int (rn), .int (ro), .int (to), .int (wt), .int (hn), .int (ho), .ref mt, .int (nI tl), .int (fa), .int (bk), .int (ba), .int (spt), .int (hre), .int (tok), .int (val), .ref mc, .ref ml, .ref mn, .int (nI se), .ref mk, .ref mg, .ref mh, .ref mq, .int (tn)])), (ma, .inl (E.2.1 1, 172, .inl (f)))]) rfl ?_
        refine v_st (st' := [.int (if hldM th f i x then 1 else 0), .int (acc)]) rfl ?_
        refine v_ifB_eq (pc := 22) 35 dX5_broughtBy_22 (by decide) (fun c_22 => ?_) (fun c_22 => ?_)
        · skip
          refine v_iconst (pc := 35) (v := 0) dX5_broughtBy_35 (by decide) ?_
          refine v_ior (pc := 36) dX5_broughtBy_36 ?_
          refine v_istore_n (pc := 37) (lv' := [(2, .int ((acc) ||| (0))), (3, .int (nI i)), (0, .ref m0), (1, .int (x))]) dX5_broughtBy_37 rfl (by decide) rfl ?_
          refine v_iinc (pc := 38) (v := nI (i + 1)) (lv' := [(3, .int (nI (i + 1))), (2, .int ((acc) ||| (0))), (0, .ref m0), (1, .int (x))]) 1 dX5_broughtBy_38 rfl (nI_inc (i) 1) (by decide) rfl ?_
          refine v_goto (pc := 41) 4 dX5_broughtBy_41 (by decide) ?_
          refine v_lv (lv' := [(3, .int (nI (i + 1))), (2, .int ((acc) ||| (0))), (0, .ref m0), (1, .int (x))]) [0, 1, 2, 3] rfl ?_
          refine ih_4 (i + 1) ((acc) ||| (0)) (by omega) ?_ ?_
          · omega
          · simp only [orF, hpM, decide_eq_true_eq]; rw [if_neg c_22, or0, h_4_1] <;> rfl
        · skip
          refine v_iconst (pc := 25) (v := 1) dX5_broughtBy_25 (by decide) ?_
          refine v_aload_n (pc := 26) 2 dX5_broughtBy_26 rfl rfl ?_
          refine v_iload_n (pc := 27) 0 dX5_broughtBy_27 rfl rfl ?_
          refine v_callV (pc := 28) (rest := [.int (1), .int (acc)]) [0, 1] 0 lk_1032 (c_X5_noteOf l E m0 ma mp mt mc ml mn mk mg mh mq nt pp tl se th rn ro to wt hn ho fa bk ba spt hre tok val tn f i (by omega)) dX5_broughtBy_28 rfl rfl (Nat.le_of_ble_eq_true rfl) (by decide) rfl rfl rfl (by decide) rfl (Rt.len rfl) (Rt.go ?_)
          refine v_w (ws' := [(m0, .inr (5, [.ref ma, .int (nI nt), .int (nI pp), .int (th), .ref mp, .int (rn), .int (ro), .int (to), .int (wt), .int (hn), .int (ho), .ref mt, .int (nI tl), .int (fa), .int (bk), .int (ba), .int (spt), .int (hre), .int (tok), .int (val), .ref mc, .ref ml, .ref mn, .int (nI se), .ref mk, .ref mg, .ref mh, .ref mq, .int (tn)])), (ma, .inl (E.2.1 1, 172, .inl (f)))]) rfl ?_
          refine v_st (st' := [.int (f (6 + 4 * i + 1)), .int (1), .int (acc)]) rfl ?_
          refine v_ishl (pc := 31) dX5_broughtBy_31 ?_
          refine v_goto (pc := 32) 36 dX5_broughtBy_32 (by decide) ?_
          refine v_ior (pc := 36) dX5_broughtBy_36 ?_
          refine v_istore_n (pc := 37) (lv' := [(2, .int ((acc) ||| ((1 : Int32) <<< ((f (6 + 4 * i + 1)) &&& 31)))), (3, .int (nI i)), (0, .ref m0), (1, .int (x))]) dX5_broughtBy_37 rfl (by decide) rfl ?_
          refine v_iinc (pc := 38) (v := nI (i + 1)) (lv' := [(3, .int (nI (i + 1))), (2, .int ((acc) ||| ((1 : Int32) <<< ((f (6 + 4 * i + 1)) &&& 31)))), (0, .ref m0), (1, .int (x))]) 1 dX5_broughtBy_38 rfl (nI_inc (i) 1) (by decide) rfl ?_
          refine v_goto (pc := 41) 4 dX5_broughtBy_41 (by decide) ?_
          refine v_lv (lv' := [(3, .int (nI (i + 1))), (2, .int ((acc) ||| ((1 : Int32) <<< ((f (6 + 4 * i + 1)) &&& 31)))), (0, .ref m0), (1, .int (x))]) [0, 1, 2, 3] rfl ?_
          refine ih_4 (i + 1) ((acc) ||| ((1 : Int32) <<< ((f (6 + 4 * i + 1)) &&& 31))) (by omega) ?_ ?_
          · omega
          · simp only [orF, hpM, decide_eq_true_eq]; rw [if_pos c_22, h_4_1] <;> rfl
  refine v_lv (lv' := [(3, .int (nI 0)), (2, .int (0)), (0, .ref m0), (1, .int (x))]) [0, 1, 2, 3] rfl ?_
  refine loop_4 ((rl - 0) + 1) 0 0 (Nat.lt_succ_self _) ?_ ?_
  · omega
  · rfl
theorem c_X5_agrees (l : Launch) (E : VE) (m0 : Nat) (ma : Nat) (mp : Nat) (mt : Nat) (mc : Nat) (ml : Nat) (mn : Nat) (mk : Nat) (mg : Nat) (mh : Nat) (mq : Nat) (nt : Nat) (pp : Nat) (rl : Nat) (tl : Nat) (se : Nat) (th : Int32) (rn : Int32) (ro : Int32) (to : Int32) (wt : Int32) (hn : Int32) (ho : Int32) (fa : Int32) (bk : Int32) (ba : Int32) (spt : Int32) (hre : Int32) (tok : Int32) (val : Int32) (tn : Int32) (f : Nat → Int32) (x : Int32) (h_rl : rl ≤ 8) (h_38 : f 38 = nI rl) : Ct l E yX5_agrees cX5_agrees 2 (Option.some FieldType.boolean) 2 47 0 0 [.ref m0, .int (x)] [(m0, .inr (5, [.ref ma, .int (nI nt), .int (nI pp), .int (th), .ref mp, .int (rn), .int (ro), .int (to), .int (wt), .int (hn), .int (ho), .ref mt, .int (nI tl), .int (fa), .int (bk), .int (ba), .int (spt), .int (hre), .int (tok), .int (val), .ref mc, .ref ml, .ref mn, .int (nI se), .ref mk, .ref mg, .ref mh, .ref mq, .int (tn)])), (ma, .inl (E.2.1 1, 172, .inl (f)))] (Rt (some (.int (if outM rl th f x = x then 1 else 0))) [(m0, .inr (5, [.ref ma, .int (nI nt), .int (nI pp), .int (th), .ref mp, .int (rn), .int (ro), .int (to), .int (wt), .int (hn), .int (ho), .ref mt, .int (nI tl), .int (fa), .int (bk), .int (ba), .int (spt), .int (hre), .int (tok), .int (val), .ref mc, .ref ml, .ref mn, .int (nI se), .ref mk, .ref mg, .ref mh, .ref mq, .int (tn)])), (ma, .inl (E.2.1 1, 172, .inl (f)))]) := by
  refine Ct.of (own := RX5) (nm := "agrees") (lv := [(0, .ref m0), (1, .int (x))]) (by decide) rfl rfl (Nat.le_of_ble_eq_true rfl) rfl ?_
  refine v_aload_n (pc := 0) 0 dX5_agrees_0 rfl rfl ?_
  refine v_iload_n (pc := 1) 1 dX5_agrees_1 rfl rfl ?_
  refine v_callV (pc := 2) (rest := []) [0, 1] 0 lk_1028 (c_X5_broughtBy l E m0 ma mp mt mc ml mn mk mg mh mq nt pp rl tl se th rn ro to wt hn ho fa bk ba spt hre tok val tn f x (by first | assumption | omega) (by first | assumption | omega)) dX5_agrees_2 rfl rfl (Nat.le_of_ble_eq_true rfl) (by decide) rfl rfl rfl (by decide) rfl (Rt.len rfl) (Rt.go ?_)
  refine v_w (ws' := [(m0, .inr (5, [.ref ma, .int (nI nt), .int (nI pp), .int (th), .ref mp, .int (rn), .int (ro), .int (to), .int (wt), .int (hn), .int (ho), .ref mt, .int (nI tl), .int (fa), .int (bk), .int (ba), .int (spt), .int (hre), .int (tok), .int (val), .ref mc, .ref ml, .ref mn, .int (nI se), .ref mk, .ref mg, .ref mh, .ref mq, .int (tn)])), (ma, .inl (E.2.1 1, 172, .inl (f)))]) rfl ?_
  refine v_st (st' := [.int (outM rl th f x)]) rfl ?_
  refine v_iload_n (pc := 5) 1 dX5_agrees_5 rfl rfl ?_
  refine v_icmp_ne (pc := 6) 13 dX5_agrees_6 (by decide) (fun c_6 => ?_) (fun c_6 => ?_)
  · skip
    refine v_iconst (pc := 13) (v := 0) dX5_agrees_13 (by decide) ?_
    refine v_zret (pc := 14) dX5_agrees_14 rfl rfl ⟨rfl, rfl⟩ (Rt.i ?_)
    exact (if_neg c_6).symm
  · skip
    refine v_iconst (pc := 9) (v := 1) dX5_agrees_9 (by decide) ?_
    refine v_goto (pc := 10) 14 dX5_agrees_10 (by decide) ?_
    refine v_zret (pc := 14) dX5_agrees_14 rfl rfl ⟨rfl, rfl⟩ (Rt.i ?_)
    exact (if_pos c_6).symm
theorem c_X5_law (l : Launch) (E : VE) (m0 : Nat) (ma : Nat) (mp : Nat) (mt : Nat) (mc : Nat) (ml : Nat) (mn : Nat) (mk : Nat) (mg : Nat) (mh : Nat) (mq : Nat) (nt : Nat) (pp : Nat) (rl : Nat) (tl : Nat) (se : Nat) (th : Int32) (rn : Int32) (ro : Int32) (to : Int32) (wt : Int32) (hn : Int32) (ho : Int32) (fa : Int32) (bk : Int32) (ba : Int32) (spt : Int32) (hre : Int32) (tok : Int32) (val : Int32) (tn : Int32) (f : Nat → Int32) (k : Int32) (x : Int32) (h_rl : rl ≤ 8) (h_38 : f 38 = nI rl) : Ct l E yX5_law cX5_law 3 (Option.some FieldType.int) 2 46 0 0 [.ref m0, .int (k), .int (x)] [(m0, .inr (5, [.ref ma, .int (nI nt), .int (nI pp), .int (th), .ref mp, .int (rn), .int (ro), .int (to), .int (wt), .int (hn), .int (ho), .ref mt, .int (nI tl), .int (fa), .int (bk), .int (ba), .int (spt), .int (hre), .int (tok), .int (val), .ref mc, .ref ml, .ref mn, .int (nI se), .ref mk, .ref mg, .ref mh, .ref mq, .int (tn)])), (ma, .inl (E.2.1 1, 172, .inl (f)))] (Rt (some (.int (if okN k rl then (if ¬ x < 0 ∧ ¬ 4 < x then (if x = 4 then (if hldM th f k.toNatClampNeg (f 41) then 1 else 0) else f (6 + 4 * k.toNatClampNeg + x.toNatClampNeg)) else -1) else -1))) [(m0, .inr (5, [.ref ma, .int (nI nt), .int (nI pp), .int (th), .ref mp, .int (rn), .int (ro), .int (to), .int (wt), .int (hn), .int (ho), .ref mt, .int (nI tl), .int (fa), .int (bk), .int (ba), .int (spt), .int (hre), .int (tok), .int (val), .ref mc, .ref ml, .ref mn, .int (nI se), .ref mk, .ref mg, .ref mh, .ref mq, .int (tn)])), (ma, .inl (E.2.1 1, 172, .inl (f)))]) := by
  refine Ct.of (own := RX5) (nm := "law") (lv := [(0, .ref m0), (1, .int (k)), (2, .int (x))]) (by decide) rfl rfl (Nat.le_of_ble_eq_true rfl) rfl ?_
  refine v_aload_n (pc := 0) 0 dX5_law_0 rfl rfl ?_
  refine v_iload_n (pc := 1) 1 dX5_law_1 rfl rfl ?_
  refine v_callV (pc := 2) (rest := []) [0, 1] 0 lk_953 (c_X5_isRule l E m0 ma mp mt mc ml mn mk mg mh mq nt pp rl tl se th rn ro to wt hn ho fa bk ba spt hre tok val tn f k (by first | assumption | omega) (by first | assumption | omega)) dX5_law_2 rfl rfl (Nat.le_of_ble_eq_true rfl) (by decide) rfl rfl rfl (by decide) rfl (Rt.len rfl) (Rt.go ?_)
  refine v_w (ws' := [(m0, .inr (5, [.ref ma, .int (nI nt), .int (nI pp), .int (th), .ref mp, .int (rn), .int (ro), .int (to), .int (wt), .int (hn), .int (ho), .ref mt, .int (nI tl), .int (fa), .int (bk), .int (ba), .int (spt), .int (hre), .int (tok), .int (val), .ref mc, .ref ml, .ref mn, .int (nI se), .ref mk, .ref mg, .ref mh, .ref mq, .int (tn)])), (ma, .inl (E.2.1 1, 172, .inl (f)))]) rfl ?_
  refine v_st (st' := [.int (if okN k rl then 1 else 0)]) rfl ?_
  refine v_ifB_eq (pc := 5) 20 dX5_law_5 (by decide) (fun c_5 => ?_) (fun c_5 => ?_)
  · skip
    refine v_iconst (pc := 20) (v := -1) dX5_law_20 (by decide) ?_
    refine v_iret (pc := 21) dX5_law_21 rfl ⟨rfl, rfl⟩ (Rt.i ?_)
    first | simp only [if_neg c_5] | rfl
  · skip
    refine v_iload_n (pc := 8) 2 dX5_law_8 rfl rfl ?_
    refine v_i2l (pc := 9) dX5_law_9 ?_
    refine v_lconst (pc := 10) (v := 0) dX5_law_10 (by decide) ?_
    refine v_ldc2 (pc := 11) dX5_law_11 tb_957 ?_
    refine v_callS (pc := 14) (rest := []) [] lk_880 (c_X5_in l E (Int32.toInt64 (x)) 0 4) dX5_law_14 rfl rfl (Nat.le_of_ble_eq_true rfl) (by decide) (by decide) rfl (Rt.len rfl) (Rt.go ?_)
    refine v_w (ws' := [(m0, .inr (5, [.ref ma, .int (nI nt), .int (nI pp), .int (th), .ref mp, .int (rn), .int (ro), .int (to), .int (wt), .int (hn), .int (ho), .ref mt, .int (nI tl), .int (fa), .int (bk), .int (ba), .int (spt), .int (hre), .int (tok), .int (val), .ref mc, .ref ml, .ref mn, .int (nI se), .ref mk, .ref mg, .ref mh, .ref mq, .int (tn)])), (ma, .inl (E.2.1 1, 172, .inl (f)))]) rfl ?_
    refine v_st (st' := [.int (if ¬ (Int32.toInt64 (x)) < 0 ∧ ¬ 4 < (Int32.toInt64 (x)) then 1 else 0)]) rfl ?_
    refine v_st (st' := [.int (if ¬ x < 0 ∧ ¬ 4 < x then 1 else 0)]) (ite_st (inK (a := 0) (b := 4)) _) ?_
    refine v_ifB_ne (pc := 17) 22 dX5_law_17 (by decide) (fun c_17 => ?_) (fun c_17 => ?_)
    · skip
      obtain ⟨j, hj, rfl⟩ := okN_ex c_5 (by omega)
      obtain ⟨y, hy, rfl⟩ := le_ex (b := 4) c_17.1 c_17.2 (by decide)
      have hjc : (nI j).toNatClampNeg = j := nI_clamp (by omega)
      have hyc : (nI y).toNatClampNeg = y := nI_clamp (by omega)
      refine v_iload_n (pc := 22) 2 dX5_law_22 rfl rfl ?_
      refine v_iconst (pc := 23) (v := 4) dX5_law_23 (by decide) ?_
      refine v_icmp_ne (pc := 24) 50 dX5_law_24 (by decide) (fun c_24 => ?_) (fun c_24 => ?_)
      · skip
        refine v_aload_n (pc := 50) 0 dX5_law_50 rfl rfl ?_
        refine gf_787 (pc := 51) 0 dX5_law_51 rfl rfl ?_
        refine v_bipush (pc := 54) (v := 6) dX5_law_54 (by decide) ?_
        refine v_iconst (pc := 56) (v := 4) dX5_law_56 (by decide) ?_
        refine v_iload_n (pc := 57) 1 dX5_law_57 rfl rfl ?_
        refine v_imul (pc := 58) dX5_law_58 ?_
        refine v_st (st' := [.int (nI (4 * j)), .int (6), .ref ma]) (congrArg (fun z => Value.int z :: _) (pk_mul 4 j)) ?_
        refine v_iadd (pc := 59) dX5_law_59 ?_
        refine v_st (st' := [.int (nI (6 + (4 * j))), .ref ma]) (congrArg (fun z => Value.int z :: _) (nI_add 6 (4 * j))) ?_
        refine v_iload_n (pc := 60) 2 dX5_law_60 rfl rfl ?_
        refine v_iadd (pc := 61) dX5_law_61 ?_
        refine v_st (st' := [.int (nI ((6 + (4 * j)) + y)), .ref ma]) (congrArg (fun z => Value.int z :: _) (nI_add (6 + (4 * j)) y)) ?_
        refine v_ialdN (pc := 62) 1 1 ((6 + (4 * j)) + y) dX5_law_62 rfl rfl rfl (by omega) (by decide) ?_
        refine v_iret (pc := 63) dX5_law_63 rfl ⟨rfl, rfl⟩ (Rt.i ?_)
        rw [if_pos c_5, if_pos c_17, if_neg c_24, hjc, hyc]
      · skip
        refine v_aload_n (pc := 27) 0 dX5_law_27 rfl rfl ?_
        refine v_iload_n (pc := 28) 1 dX5_law_28 rfl rfl ?_
        refine v_aload_n (pc := 29) 0 dX5_law_29 rfl rfl ?_
        refine gf_787 (pc := 30) 0 dX5_law_30 rfl rfl ?_
        refine v_bipush (pc := 33) (v := 41) dX5_law_33 (by decide) ?_
        refine v_ialdN (pc := 35) 1 1 (41) dX5_law_35 rfl rfl rfl (by decide) (by decide) ?_
        refine v_callV (pc := 36) (rest := []) [0, 1] 0 lk_958 (c_X5_holds l E m0 ma mp mt mc ml mn mk mg mh mq nt pp tl se th rn ro to wt hn ho fa bk ba spt hre tok val tn f j (f 41) (by first | assumption | omega)) dX5_law_36 rfl rfl (Nat.le_of_ble_eq_true rfl) (by decide) rfl rfl rfl (by decide) rfl (Rt.len rfl) (Rt.go ?_)
        refine v_w (ws' := [(m0, .inr (5, [.ref ma, .int (nI nt), .int (nI pp), .int (th), .ref mp, .int (rn), .int (ro), .int (to), .int (wt), .int (hn), .int (ho), .ref mt, .int (nI tl), .int (fa), .int (bk), .int (ba), .int (spt), .int (hre), .int (tok), .int (val), .ref mc, .ref ml, .ref mn, .int (nI se), .ref mk, .ref mg, .ref mh, .ref mq, .int (tn)])), (ma, .inl (E.2.1 1, 172, .inl (f)))]) rfl ?_
        refine v_st (st' := [.int (if hldM th f j (f 41) then 1 else 0)]) rfl ?_
        refine v_ifB_eq (pc := 39) 46 dX5_law_39 (by decide) (fun c_39 => ?_) (fun c_39 => ?_)
        · skip
          refine v_iconst (pc := 46) (v := 0) dX5_law_46 (by decide) ?_
          refine v_goto (pc := 47) 63 dX5_law_47 (by decide) ?_
          refine v_iret (pc := 63) dX5_law_63 rfl ⟨rfl, rfl⟩ (Rt.i ?_)
          rw [if_pos c_5, if_pos c_17, if_pos c_24, hjc, if_neg c_39]
        · skip
          refine v_iconst (pc := 42) (v := 1) dX5_law_42 (by decide) ?_
          refine v_goto (pc := 43) 63 dX5_law_43 (by decide) ?_
          refine v_iret (pc := 63) dX5_law_63 rfl ⟨rfl, rfl⟩ (Rt.i ?_)
          rw [if_pos c_5, if_pos c_17, if_pos c_24, hjc, if_pos c_39]
    · skip
      refine v_iconst (pc := 20) (v := -1) dX5_law_20 (by decide) ?_
      refine v_iret (pc := 21) dX5_law_21 rfl ⟨rfl, rfl⟩ (Rt.i ?_)
      first | simp only [if_pos c_5, if_neg c_17] | rfl
theorem c_X5_worth (l : Launch) (E : VE) (m0 : Nat) (ma : Nat) (mp : Nat) (mt : Nat) (mc : Nat) (ml : Nat) (mn : Nat) (mk : Nat) (mg : Nat) (mh : Nat) (mq : Nat) (nt : Nat) (pp : Nat) (tl : Nat) (se : Nat) (th : Int32) (rn : Int32) (ro : Int32) (to : Int32) (wt : Int32) (hn : Int32) (ho : Int32) (fa : Int32) (bk : Int32) (ba : Int32) (spt : Int32) (hre : Int32) (tok : Int32) (val : Int32) (tn : Int32) (f : Nat → Int32) (x : Int32) (h_nt : nt ≤ 6) : Ct l E yX5_worth cX5_worth 2 (Option.some FieldType.int) 2 46 0 0 [.ref m0, .int (x)] [(m0, .inr (5, [.ref ma, .int (nI nt), .int (nI pp), .int (th), .ref mp, .int (rn), .int (ro), .int (to), .int (wt), .int (hn), .int (ho), .ref mt, .int (nI tl), .int (fa), .int (bk), .int (ba), .int (spt), .int (hre), .int (tok), .int (val), .ref mc, .ref ml, .ref mn, .int (nI se), .ref mk, .ref mg, .ref mh, .ref mq, .int (tn)])), (ma, .inl (E.2.1 1, 172, .inl (f)))] (Rt (some (.int (if okN x nt then 100 + f x.toNatClampNeg else -1))) [(m0, .inr (5, [.ref ma, .int (nI nt), .int (nI pp), .int (th), .ref mp, .int (rn), .int (ro), .int (to), .int (wt), .int (hn), .int (ho), .ref mt, .int (nI tl), .int (fa), .int (bk), .int (ba), .int (spt), .int (hre), .int (tok), .int (val), .ref mc, .ref ml, .ref mn, .int (nI se), .ref mk, .ref mg, .ref mh, .ref mq, .int (tn)])), (ma, .inl (E.2.1 1, 172, .inl (f)))]) := by
  refine Ct.of (own := RX5) (nm := "worth") (lv := [(0, .ref m0), (1, .int (x))]) (by decide) rfl rfl (Nat.le_of_ble_eq_true rfl) rfl ?_
  refine v_aload_n (pc := 0) 0 dX5_worth_0 rfl rfl ?_
  refine v_iload_n (pc := 1) 1 dX5_worth_1 rfl rfl ?_
  refine v_callV (pc := 2) (rest := []) [0] 0 lk_966 (c_X5_isNote l E m0 ma mp mt mc ml mn mk mg mh mq nt pp tl se th rn ro to wt hn ho fa bk ba spt hre tok val tn x (by first | assumption | omega)) dX5_worth_2 rfl rfl (Nat.le_of_ble_eq_true rfl) (by decide) rfl rfl rfl (by decide) rfl (Rt.len rfl) (Rt.go ?_)
  refine v_w (ws' := [(m0, .inr (5, [.ref ma, .int (nI nt), .int (nI pp), .int (th), .ref mp, .int (rn), .int (ro), .int (to), .int (wt), .int (hn), .int (ho), .ref mt, .int (nI tl), .int (fa), .int (bk), .int (ba), .int (spt), .int (hre), .int (tok), .int (val), .ref mc, .ref ml, .ref mn, .int (nI se), .ref mk, .ref mg, .ref mh, .ref mq, .int (tn)])), (ma, .inl (E.2.1 1, 172, .inl (f)))]) rfl ?_
  refine v_st (st' := [.int (if okN x nt then 1 else 0)]) rfl ?_
  refine v_ifB_eq (pc := 5) 20 dX5_worth_5 (by decide) (fun c_5 => ?_) (fun c_5 => ?_)
  · skip
    refine v_iconst (pc := 20) (v := -1) dX5_worth_20 (by decide) ?_
    refine v_iret (pc := 21) dX5_worth_21 rfl ⟨rfl, rfl⟩ (Rt.i ?_)
    first | simp only [if_neg c_5] | rfl
  · skip
    refine v_bipush (pc := 8) (v := 100) dX5_worth_8 (by decide) ?_
    refine v_aload_n (pc := 10) 0 dX5_worth_10 rfl rfl ?_
    refine gf_787 (pc := 11) 0 dX5_worth_11 rfl rfl ?_
    refine v_iload_n (pc := 14) 1 dX5_worth_14 rfl rfl ?_
    refine v_iald (pc := 15) 1 1 dX5_worth_15 rfl rfl (okN_in c_5.1 c_5.2 (by omega) (by decide)) ?_
    refine v_iadd (pc := 16) dX5_worth_16 ?_
    refine v_goto (pc := 17) 21 dX5_worth_17 (by decide) ?_
    refine v_iret (pc := 21) dX5_worth_21 rfl ⟨rfl, rfl⟩ (Rt.i ?_)
    first | simp only [if_pos c_5] | rfl
theorem c_X5_marks (l : Launch) (E : VE) (m0 : Nat) (ma : Nat) (mp : Nat) (mt : Nat) (mc : Nat) (ml : Nat) (mn : Nat) (mk : Nat) (mg : Nat) (mh : Nat) (mq : Nat) (nt : Nat) (pp : Nat) (tl : Nat) (se : Nat) (th : Int32) (rn : Int32) (ro : Int32) (to : Int32) (wt : Int32) (hn : Int32) (ho : Int32) (fa : Int32) (bk : Int32) (ba : Int32) (spt : Int32) (hre : Int32) (tok : Int32) (val : Int32) (tn : Int32) (f : Nat → Int32) (a : Nat) (x : Int32) (P : Prop) (dP : Decidable P) (h_a : a < 172) : Ct l E yX5_marks cX5_marks 5 (Option.some FieldType.int) 0 0 0 0 [.ref m0, .int (nI a), .int (x), .int (if P then 1 else 0)] [(m0, .inr (5, [.ref ma, .int (nI nt), .int (nI pp), .int (th), .ref mp, .int (rn), .int (ro), .int (to), .int (wt), .int (hn), .int (ho), .ref mt, .int (nI tl), .int (fa), .int (bk), .int (ba), .int (spt), .int (hre), .int (tok), .int (val), .ref mc, .ref ml, .ref mn, .int (nI se), .ref mk, .ref mg, .ref mh, .ref mq, .int (tn)])), (ma, .inl (E.2.1 1, 172, .inl (f)))] (Rt (some (.int (bt1 (f a) x))) [(m0, .inr (5, [.ref ma, .int (nI nt), .int (nI pp), .int (th), .ref mp, .int (rn), .int (ro), .int (to), .int (wt), .int (hn), .int (ho), .ref mt, .int (nI tl), .int (fa), .int (bk), .int (ba), .int (spt), .int (hre), .int (tok), .int (val), .ref mc, .ref ml, .ref mn, .int (nI se), .ref mk, .ref mg, .ref mh, .ref mq, .int (tn)])), (ma, .inl (E.2.1 1, 172, .inl (mkF f a x P)))]) := by
  refine Ct.of (own := RX5) (nm := "marks") (lv := [(0, .ref m0), (1, .int (nI a)), (2, .int (x)), (3, .int (if P then 1 else 0))]) (by decide) rfl rfl (Nat.le_of_ble_eq_true rfl) rfl ?_
  refine v_aload_n (pc := 0) 0 dX5_marks_0 rfl rfl ?_
  refine gf_787 (pc := 1) 0 dX5_marks_1 rfl rfl ?_
  refine v_iload_n (pc := 4) 1 dX5_marks_4 rfl rfl ?_
  refine v_ialdN (pc := 5) 1 1 (a) dX5_marks_5 rfl rfl rfl (by omega) (by decide) ?_
  refine v_iload_n (pc := 6) 2 dX5_marks_6 rfl rfl ?_
  refine v_ishr (pc := 7) dX5_marks_7 ?_
  refine v_iconst (pc := 8) (v := 1) dX5_marks_8 (by decide) ?_
  refine v_iand (pc := 9) dX5_marks_9 ?_
  refine v_istore (pc := 10) (lv' := [(4, .int (((f a) >>> ((x) &&& 31)) &&& (1))), (0, .ref m0), (1, .int (nI a)), (2, .int (x)), (3, .int (if P then 1 else 0))]) dX5_marks_10 (by decide) rfl ?_
  refine v_aload_n (pc := 12) 1 dX5_marks_12 rfl rfl ?_
  refine gf_787 (pc := 13) 0 dX5_marks_13 rfl rfl ?_
  refine v_iload_n (pc := 16) 2 dX5_marks_16 rfl rfl ?_
  refine v_aload_n (pc := 17) 1 dX5_marks_17 rfl rfl ?_
  refine gf_787 (pc := 18) 0 dX5_marks_18 rfl rfl ?_
  refine v_iload_n (pc := 21) 2 dX5_marks_21 rfl rfl ?_
  refine v_ialdN (pc := 22) 1 1 (a) dX5_marks_22 rfl rfl rfl (by omega) (by decide) ?_
  refine v_iconst (pc := 23) (v := 1) dX5_marks_23 (by decide) ?_
  refine v_iload_n (pc := 24) 3 dX5_marks_24 rfl rfl ?_
  refine v_ishl (pc := 25) dX5_marks_25 ?_
  refine v_iconst (pc := 26) (v := -1) dX5_marks_26 (by decide) ?_
  refine v_ixor (pc := 27) dX5_marks_27 ?_
  refine v_iand (pc := 28) dX5_marks_28 ?_
  refine v_iload_n (pc := 29) 4 dX5_marks_29 rfl rfl ?_
  refine v_ifB_eq (pc := 30) 39 dX5_marks_30 (by decide) (fun c_30 => ?_) (fun c_30 => ?_)
  · skip
    refine v_iconst (pc := 39) (v := 0) dX5_marks_39 (by decide) ?_
    refine v_ior (pc := 40) dX5_marks_40 ?_
    refine v_iastN (pc := 41) (ws' := [(m0, .inr (5, [.ref ma, .int (nI nt), .int (nI pp), .int (th), .ref mp, .int (rn), .int (ro), .int (to), .int (wt), .int (hn), .int (ho), .ref mt, .int (nI tl), .int (fa), .int (bk), .int (ba), .int (spt), .int (hre), .int (tok), .int (val), .ref mc, .ref ml, .ref mn, .int (nI se), .ref mk, .ref mg, .ref mh, .ref mq, .int (tn)])), (ma, .inl (E.2.1 1, 172, .inl (upd (f) (a) (((f a) &&& (((1 : Int32) <<< ((x) &&& 31)) ^^^ (-1))) ||| (0)))))]) 1 1 (a) dX5_marks_41 rfl rfl rfl (by omega) (by decide) rfl ?_
    refine v_iload (pc := 42) 0 dX5_marks_42 rfl ?_
    refine v_iret (pc := 44) dX5_marks_44 rfl ⟨rfl, rfl⟩ (Rt.i2 ?_ ?_)
    · skip
      rfl
    · skip
      unfold mkF; rw [if_neg c_30]
  · skip
    refine v_iconst (pc := 33) (v := 1) dX5_marks_33 (by decide) ?_
    refine v_iload_n (pc := 34) 3 dX5_marks_34 rfl rfl ?_
    refine v_ishl (pc := 35) dX5_marks_35 ?_
    refine v_goto (pc := 36) 40 dX5_marks_36 (by decide) ?_
    refine v_ior (pc := 40) dX5_marks_40 ?_
    refine v_iastN (pc := 41) (ws' := [(m0, .inr (5, [.ref ma, .int (nI nt), .int (nI pp), .int (th), .ref mp, .int (rn), .int (ro), .int (to), .int (wt), .int (hn), .int (ho), .ref mt, .int (nI tl), .int (fa), .int (bk), .int (ba), .int (spt), .int (hre), .int (tok), .int (val), .ref mc, .ref ml, .ref mn, .int (nI se), .ref mk, .ref mg, .ref mh, .ref mq, .int (tn)])), (ma, .inl (E.2.1 1, 172, .inl (upd (f) (a) (((f a) &&& (((1 : Int32) <<< ((x) &&& 31)) ^^^ (-1))) ||| ((1 : Int32) <<< ((x) &&& 31))))))]) 1 1 (a) dX5_marks_41 rfl rfl rfl (by omega) (by decide) rfl ?_
    refine v_iload (pc := 42) 0 dX5_marks_42 rfl ?_
    refine v_iret (pc := 44) dX5_marks_44 rfl ⟨rfl, rfl⟩ (Rt.i2 ?_ ?_)
    · skip
      rfl
    · skip
      unfold mkF; rw [if_pos c_30]
theorem c_X5_writes (l : Launch) (E : VE) (m0 : Nat) (ma : Nat) (mp : Nat) (mt : Nat) (mc : Nat) (ml : Nat) (mn : Nat) (mk : Nat) (mg : Nat) (mh : Nat) (mq : Nat) (nt : Nat) (pp : Nat) (tl : Nat) (se : Nat) (th : Int32) (rn : Int32) (ro : Int32) (to : Int32) (wt : Int32) (hn : Int32) (ho : Int32) (fa : Int32) (bk : Int32) (ba : Int32) (spt : Int32) (hre : Int32) (tok : Int32) (val : Int32) (tn : Int32) (f : Nat → Int32) (x : Int32) (P : Prop) (dP : Decidable P) (h_nt : nt ≤ 6) : Ct l E yX5_writes cX5_writes 3 (Option.some FieldType.int) 2 46 0 0 [.ref m0, .int (x), .int (if P then 1 else 0)] [(m0, .inr (5, [.ref ma, .int (nI nt), .int (nI pp), .int (th), .ref mp, .int (rn), .int (ro), .int (to), .int (wt), .int (hn), .int (ho), .ref mt, .int (nI tl), .int (fa), .int (bk), .int (ba), .int (spt), .int (hre), .int (tok), .int (val), .ref mc, .ref ml, .ref mn, .int (nI se), .ref mk, .ref mg, .ref mh, .ref mq, .int (tn)])), (ma, .inl (E.2.1 1, 172, .inl (f)))] (Rt (some (.int (if refu nt (f 40) x P = 0 then bt1 (f 41) x else refu nt (f 40) x P))) [(m0, .inr (5, [.ref ma, .int (nI nt), .int (nI pp), .int (th), .ref mp, .int (rn), .int (ro), .int (to), .int (wt), .int (hn), .int (ho), .ref mt, .int (nI tl), .int (fa), .int (bk), .int (ba), .int (spt), .int (hre), .int (tok), .int (val), .ref mc, .ref ml, .ref mn, .int (nI se), .ref mk, .ref mg, .ref mh, .ref mq, .int (tn)])), (ma, .inl (E.2.1 1, 172, .inl (if refu nt (f 40) x P = 0 then mkF f 41 x P else f)))]) := by
  refine Ct.of (own := RX5) (nm := "writes") (lv := [(0, .ref m0), (1, .int (x)), (2, .int (if P then 1 else 0))]) (by decide) rfl rfl (Nat.le_of_ble_eq_true rfl) rfl ?_
  refine v_aload_n (pc := 0) 0 dX5_writes_0 rfl rfl ?_
  refine v_iload_n (pc := 1) 1 dX5_writes_1 rfl rfl ?_
  refine v_callV (pc := 2) (rest := []) [0] 0 lk_966 (c_X5_isNote l E m0 ma mp mt mc ml mn mk mg mh mq nt pp tl se th rn ro to wt hn ho fa bk ba spt hre tok val tn x (by first | assumption | omega)) dX5_writes_2 rfl rfl (Nat.le_of_ble_eq_true rfl) (by decide) rfl rfl rfl (by decide) rfl (Rt.len rfl) (Rt.go ?_)
  refine v_w (ws' := [(m0, .inr (5, [.ref ma, .int (nI nt), .int (nI pp), .int (th), .ref mp, .int (rn), .int (ro), .int (to), .int (wt), .int (hn), .int (ho), .ref mt, .int (nI tl), .int (fa), .int (bk), .int (ba), .int (spt), .int (hre), .int (tok), .int (val), .ref mc, .ref ml, .ref mn, .int (nI se), .ref mk, .ref mg, .ref mh, .ref mq, .int (tn)])), (ma, .inl (E.2.1 1, 172, .inl (f)))]) rfl ?_
  refine v_st (st' := [.int (if okN x nt then 1 else 0)]) rfl ?_
  refine v_ifB_ne (pc := 5) 10 dX5_writes_5 (by decide) (fun c_5 => ?_) (fun c_5 => ?_)
  · skip
    refine v_iload_n (pc := 10) 2 dX5_writes_10 rfl rfl ?_
    refine v_ifB_eq (pc := 11) 34 dX5_writes_11 (by decide) (fun c_11 => ?_) (fun c_11 => ?_)
    · skip
      refine v_aload_n (pc := 34) 0 dX5_writes_34 rfl rfl ?_
      refine v_bipush (pc := 35) (v := 41) dX5_writes_35 (by decide) ?_
      refine v_iload_n (pc := 37) 1 dX5_writes_37 rfl rfl ?_
      refine v_iload_n (pc := 38) 2 dX5_writes_38 rfl rfl ?_
      refine v_callV (pc := 39) (rest := []) [0, 1] 0 lk_978 (c_X5_marks l E m0 ma mp mt mc ml mn mk mg mh mq nt pp tl se th rn ro to wt hn ho fa bk ba spt hre tok val tn f 41 x P inferInstance (by first | assumption | omega)) dX5_writes_39 rfl rfl (Nat.le_of_ble_eq_true rfl) (by decide) rfl rfl rfl (by decide) rfl (Rt.len rfl) (Rt.go ?_)
      refine v_w (ws' := [(m0, .inr (5, [.ref ma, .int (nI nt), .int (nI pp), .int (th), .ref mp, .int (rn), .int (ro), .int (to), .int (wt), .int (hn), .int (ho), .ref mt, .int (nI tl), .int (fa), .int (bk), .int (ba), .int (spt), .int (hre), .int (tok), .int (val), .ref mc, .ref ml, .ref mn, .int (nI se), .ref mk, .ref mg, .ref mh, .ref mq, .int (tn)])), (ma, .inl (E.2.1 1, 172, .inl (mkF f 41 x P)))]) rfl ?_
      refine v_st (st' := [.int (bt1 (f 41) x)]) rfl ?_
      refine v_iret (pc := 42) dX5_writes_42 rfl ⟨rfl, rfl⟩ (Rt.i2 ?_ ?_)
      · skip
        have hr : refu nt (f 40) x P = 0 := by unfold refu; rw [if_pos c_5, if_neg (fun q => c_11 q.1)]
        rw [hr]; rfl
      · skip
        have hr : refu nt (f 40) x P = 0 := by unfold refu; rw [if_pos c_5, if_neg (fun q => c_11 q.1)]
        rw [hr]; rfl
    · skip
      refine v_aload_n (pc := 14) 0 dX5_writes_14 rfl rfl ?_
      refine gf_787 (pc := 15) 0 dX5_writes_15 rfl rfl ?_
      refine v_bipush (pc := 18) (v := 40) dX5_writes_18 (by decide) ?_
      refine v_ialdN (pc := 20) 1 1 (40) dX5_writes_20 rfl rfl rfl (by decide) (by decide) ?_
      refine v_iload_n (pc := 21) 1 dX5_writes_21 rfl rfl ?_
      refine v_ishr (pc := 22) dX5_writes_22 ?_
      refine v_iconst (pc := 23) (v := 1) dX5_writes_23 (by decide) ?_
      refine v_iand (pc := 24) dX5_writes_24 ?_
      refine v_iconst (pc := 25) (v := 1) dX5_writes_25 (by decide) ?_
      refine v_icmp_ne (pc := 26) 34 dX5_writes_26 (by decide) (fun c_26 => ?_) (fun c_26 => ?_)
      · skip
        refine v_aload_n (pc := 34) 0 dX5_writes_34 rfl rfl ?_
        refine v_bipush (pc := 35) (v := 41) dX5_writes_35 (by decide) ?_
        refine v_iload_n (pc := 37) 1 dX5_writes_37 rfl rfl ?_
        refine v_iload_n (pc := 38) 2 dX5_writes_38 rfl rfl ?_
        refine v_callV (pc := 39) (rest := []) [0, 1] 0 lk_978 (c_X5_marks l E m0 ma mp mt mc ml mn mk mg mh mq nt pp tl se th rn ro to wt hn ho fa bk ba spt hre tok val tn f 41 x P inferInstance (by first | assumption | omega)) dX5_writes_39 rfl rfl (Nat.le_of_ble_eq_true rfl) (by decide) rfl rfl rfl (by decide) rfl (Rt.len rfl) (Rt.go ?_)
        refine v_w (ws' := [(m0, .inr (5, [.ref ma, .int (nI nt), .int (nI pp), .int (th), .ref mp, .int (rn), .int (ro), .int (to), .int (wt), .int (hn), .int (ho), .ref mt, .int (nI tl), .int (fa), .int (bk), .int (ba), .int (spt), .int (hre), .int (tok), .int (val), .ref mc, .ref ml, .ref mn, .int (nI se), .ref mk, .ref mg, .ref mh, .ref mq, .int (tn)])), (ma, .inl (E.2.1 1, 172, .inl (mkF f 41 x P)))]) rfl ?_
        refine v_st (st' := [.int (bt1 (f 41) x)]) rfl ?_
        refine v_iret (pc := 42) dX5_writes_42 rfl ⟨rfl, rfl⟩ (Rt.i2 ?_ ?_)
        · skip
          have hr : refu nt (f 40) x P = 0 := by unfold refu; rw [if_pos c_5, if_neg (fun q => c_26 q.2)]
          rw [hr]; rfl
        · skip
          have hr : refu nt (f 40) x P = 0 := by unfold refu; rw [if_pos c_5, if_neg (fun q => c_26 q.2)]
          rw [hr]; rfl
      · skip
        refine v_bipush (pc := 29) (v := -2) dX5_writes_29 (by decide) ?_
        refine v_goto (pc := 31) 42 dX5_writes_31 (by decide) ?_
        refine v_iret (pc := 42) dX5_writes_42 rfl ⟨rfl, rfl⟩ (Rt.i2 ?_ ?_)
        · skip
          have hr : refu nt (f 40) x P = -2 := by unfold refu; rw [if_pos c_5, if_pos ⟨c_11, c_26⟩]
          rw [hr]; rfl
        · skip
          have hr : refu nt (f 40) x P = -2 := by unfold refu; rw [if_pos c_5, if_pos ⟨c_11, c_26⟩]
          rw [hr]; rfl
  · skip
    refine v_iconst (pc := 8) (v := -1) dX5_writes_8 (by decide) ?_
    refine v_iret (pc := 9) dX5_writes_9 rfl ⟨rfl, rfl⟩ (Rt.i2 ?_ ?_)
    · skip
      have hr : refu nt (f 40) x P = -1 := by unfold refu; rw [if_neg c_5]
      rw [hr]; rfl
    · skip
      have hr : refu nt (f 40) x P = -1 := by unfold refu; rw [if_neg c_5]
      rw [hr]; rfl
theorem c_X5_write (l : Launch) (E : VE) (m0 : Nat) (ma : Nat) (mp : Nat) (mt : Nat) (mc : Nat) (ml : Nat) (mn : Nat) (mk : Nat) (mg : Nat) (mh : Nat) (mq : Nat) (nt : Nat) (pp : Nat) (tl : Nat) (se : Nat) (th : Int32) (rn : Int32) (ro : Int32) (to : Int32) (wt : Int32) (hn : Int32) (ho : Int32) (fa : Int32) (bk : Int32) (ba : Int32) (spt : Int32) (hre : Int32) (tok : Int32) (val : Int32) (tn : Int32) (f : Nat → Int32) (x : Int32) (P : Prop) (dP : Decidable P) (h_nt : nt ≤ 6) : Ct l E yX5_write cX5_write 3 (Option.some FieldType.int) 3 68 0 0 [.ref m0, .int (x), .int (if P then 1 else 0)] [(m0, .inr (5, [.ref ma, .int (nI nt), .int (nI pp), .int (th), .ref mp, .int (rn), .int (ro), .int (to), .int (wt), .int (hn), .int (ho), .ref mt, .int (nI tl), .int (fa), .int (bk), .int (ba), .int (spt), .int (hre), .int (tok), .int (val), .ref mc, .ref ml, .ref mn, .int (nI se), .ref mk, .ref mg, .ref mh, .ref mq, .int (tn)])), (ma, .inl (E.2.1 1, 172, .inl (f)))] (Rt (some (.int (if refu nt (f 40) x P = 0 then bt1 (f 41) x else refu nt (f 40) x P))) [(m0, .inr (5, [.ref ma, .int (nI nt), .int (nI pp), .int (th), .ref mp, .int (rn), .int (ro), .int (to), .int (wt), .int (hn), .int (ho), .ref mt, .int (nI tl), .int (fa), .int (bk), .int (ba), .int (spt), .int (hre), .int (tok), .int (val), .ref mc, .ref ml, .ref mn, .int (nI se), .ref mk, .ref mg, .ref mh, .ref mq, .int (tn)])), (ma, .inl (E.2.1 1, 172, .inl (if refu nt (f 40) x P = 0 then mkF f 41 x P else f)))]) := by
  refine Ct.of (own := RX5) (nm := "write") (lv := [(0, .ref m0), (1, .int (x)), (2, .int (if P then 1 else 0))]) (by decide) rfl rfl (Nat.le_of_ble_eq_true rfl) rfl ?_
  refine v_aload_n (pc := 0) 0 dX5_write_0 rfl rfl ?_
  refine v_iload_n (pc := 1) 1 dX5_write_1 rfl rfl ?_
  refine v_iload_n (pc := 2) 2 dX5_write_2 rfl rfl ?_
  refine v_callV (pc := 3) (rest := []) [0, 1] 0 lk_974 (c_X5_writes l E m0 ma mp mt mc ml mn mk mg mh mq nt pp tl se th rn ro to wt hn ho fa bk ba spt hre tok val tn f x P inferInstance (by first | assumption | omega)) dX5_write_3 rfl rfl (Nat.le_of_ble_eq_true rfl) (by decide) rfl rfl rfl (by decide) rfl (Rt.len rfl) (Rt.go ?_)
  refine v_w (ws' := [(m0, .inr (5, [.ref ma, .int (nI nt), .int (nI pp), .int (th), .ref mp, .int (rn), .int (ro), .int (to), .int (wt), .int (hn), .int (ho), .ref mt, .int (nI tl), .int (fa), .int (bk), .int (ba), .int (spt), .int (hre), .int (tok), .int (val), .ref mc, .ref ml, .ref mn, .int (nI se), .ref mk, .ref mg, .ref mh, .ref mq, .int (tn)])), (ma, .inl (E.2.1 1, 172, .inl (if refu nt (f 40) x P = 0 then mkF f 41 x P else f)))]) rfl ?_
  refine v_st (st' := [.int (if refu nt (f 40) x P = 0 then bt1 (f 41) x else refu nt (f 40) x P)]) rfl ?_
  refine v_iret (pc := 6) dX5_write_6 rfl ⟨rfl, rfl⟩ (Rt.i2 ?_ ?_)
  · skip
    rfl
  · skip
    rfl
theorem c_X5_home (l : Launch) (E : VE) (m0 : Nat) (ma : Nat) (mp : Nat) (mt : Nat) (mc : Nat) (ml : Nat) (mn : Nat) (mk : Nat) (mg : Nat) (mh : Nat) (mq : Nat) (nt : Nat) (pp : Nat) (tl : Nat) (se : Nat) (th : Int32) (rn : Int32) (ro : Int32) (to : Int32) (wt : Int32) (hn : Int32) (ho : Int32) (fa : Int32) (bk : Int32) (ba : Int32) (spt : Int32) (hre : Int32) (tok : Int32) (val : Int32) (tn : Int32) (f : Nat → Int32) (x : Int32) (P : Prop) (dP : Decidable P) (h_pp : pp ≤ 4) : Ct l E yX5_home cX5_home 3 (Option.some FieldType.int) 2 46 0 0 [.ref m0, .int (x), .int (if P then 1 else 0)] [(m0, .inr (5, [.ref ma, .int (nI nt), .int (nI pp), .int (th), .ref mp, .int (rn), .int (ro), .int (to), .int (wt), .int (hn), .int (ho), .ref mt, .int (nI tl), .int (fa), .int (bk), .int (ba), .int (spt), .int (hre), .int (tok), .int (val), .ref mc, .ref ml, .ref mn, .int (nI se), .ref mk, .ref mg, .ref mh, .ref mq, .int (tn)])), (ma, .inl (E.2.1 1, 172, .inl (f)))] (Rt (some (.int (if okN x pp then bt1 (f 39) x else -1))) [(m0, .inr (5, [.ref ma, .int (nI nt), .int (nI pp), .int (th), .ref mp, .int (rn), .int (ro), .int (to), .int (wt), .int (hn), .int (ho), .ref mt, .int (nI tl), .int (fa), .int (bk), .int (ba), .int (spt), .int (hre), .int (tok), .int (val), .ref mc, .ref ml, .ref mn, .int (nI se), .ref mk, .ref mg, .ref mh, .ref mq, .int (tn)])), (ma, .inl (E.2.1 1, 172, .inl (if okN x pp then mkF f 39 x P else f)))]) := by
  refine Ct.of (own := RX5) (nm := "home") (lv := [(0, .ref m0), (1, .int (x)), (2, .int (if P then 1 else 0))]) (by decide) rfl rfl (Nat.le_of_ble_eq_true rfl) rfl ?_
  refine v_aload_n (pc := 0) 0 dX5_home_0 rfl rfl ?_
  refine v_iload_n (pc := 1) 1 dX5_home_1 rfl rfl ?_
  refine v_callV (pc := 2) (rest := []) [0] 0 lk_986 (c_X5_isOne l E m0 ma mp mt mc ml mn mk mg mh mq nt pp tl se th rn ro to wt hn ho fa bk ba spt hre tok val tn x (by first | assumption | omega)) dX5_home_2 rfl rfl (Nat.le_of_ble_eq_true rfl) (by decide) rfl rfl rfl (by decide) rfl (Rt.len rfl) (Rt.go ?_)
  refine v_w (ws' := [(m0, .inr (5, [.ref ma, .int (nI nt), .int (nI pp), .int (th), .ref mp, .int (rn), .int (ro), .int (to), .int (wt), .int (hn), .int (ho), .ref mt, .int (nI tl), .int (fa), .int (bk), .int (ba), .int (spt), .int (hre), .int (tok), .int (val), .ref mc, .ref ml, .ref mn, .int (nI se), .ref mk, .ref mg, .ref mh, .ref mq, .int (tn)])), (ma, .inl (E.2.1 1, 172, .inl (f)))]) rfl ?_
  refine v_st (st' := [.int (if okN x pp then 1 else 0)]) rfl ?_
  refine v_ifB_eq (pc := 5) 19 dX5_home_5 (by decide) (fun c_5 => ?_) (fun c_5 => ?_)
  · skip
    refine v_iconst (pc := 19) (v := -1) dX5_home_19 (by decide) ?_
    refine v_iret (pc := 20) dX5_home_20 rfl ⟨rfl, rfl⟩ (Rt.i2 ?_ ?_)
    · skip
      first | simp only [if_neg c_5] | rfl
    · skip
      first | simp only [if_neg c_5] | rfl
  · skip
    refine v_aload_n (pc := 8) 0 dX5_home_8 rfl rfl ?_
    refine v_bipush (pc := 9) (v := 39) dX5_home_9 (by decide) ?_
    refine v_iload_n (pc := 11) 1 dX5_home_11 rfl rfl ?_
    refine v_iload_n (pc := 12) 2 dX5_home_12 rfl rfl ?_
    refine v_callV (pc := 13) (rest := []) [0, 1] 0 lk_978 (c_X5_marks l E m0 ma mp mt mc ml mn mk mg mh mq nt pp tl se th rn ro to wt hn ho fa bk ba spt hre tok val tn f 39 x P inferInstance (by first | assumption | omega)) dX5_home_13 rfl rfl (Nat.le_of_ble_eq_true rfl) (by decide) rfl rfl rfl (by decide) rfl (Rt.len rfl) (Rt.go ?_)
    refine v_w (ws' := [(m0, .inr (5, [.ref ma, .int (nI nt), .int (nI pp), .int (th), .ref mp, .int (rn), .int (ro), .int (to), .int (wt), .int (hn), .int (ho), .ref mt, .int (nI tl), .int (fa), .int (bk), .int (ba), .int (spt), .int (hre), .int (tok), .int (val), .ref mc, .ref ml, .ref mn, .int (nI se), .ref mk, .ref mg, .ref mh, .ref mq, .int (tn)])), (ma, .inl (E.2.1 1, 172, .inl (mkF f 39 x P)))]) rfl ?_
    refine v_st (st' := [.int (bt1 (f 39) x)]) rfl ?_
    refine v_goto (pc := 16) 20 dX5_home_16 (by decide) ?_
    refine v_iret (pc := 20) dX5_home_20 rfl ⟨rfl, rfl⟩ (Rt.i2 ?_ ?_)
    · skip
      first | simp only [if_pos c_5] | rfl
    · skip
      first | simp only [if_pos c_5] | rfl
theorem c_X5_stop (l : Launch) (E : VE) (m0 : Nat) (ma : Nat) (mp : Nat) (mt : Nat) (mc : Nat) (ml : Nat) (mn : Nat) (mk : Nat) (mg : Nat) (mh : Nat) (mq : Nat) (nt : Nat) (pp : Nat) (tl : Nat) (se : Nat) (th : Int32) (rn : Int32) (ro : Int32) (to : Int32) (wt : Int32) (hn : Int32) (ho : Int32) (fa : Int32) (bk : Int32) (ba : Int32) (spt : Int32) (hre : Int32) (tok : Int32) (val : Int32) (tn : Int32) (f : Nat → Int32) (x : Int32) (P : Prop) (dP : Decidable P) (h_nt : nt ≤ 6) : Ct l E yX5_stop cX5_stop 3 (Option.some FieldType.int) 2 46 0 0 [.ref m0, .int (x), .int (if P then 1 else 0)] [(m0, .inr (5, [.ref ma, .int (nI nt), .int (nI pp), .int (th), .ref mp, .int (rn), .int (ro), .int (to), .int (wt), .int (hn), .int (ho), .ref mt, .int (nI tl), .int (fa), .int (bk), .int (ba), .int (spt), .int (hre), .int (tok), .int (val), .ref mc, .ref ml, .ref mn, .int (nI se), .ref mk, .ref mg, .ref mh, .ref mq, .int (tn)])), (ma, .inl (E.2.1 1, 172, .inl (f)))] (Rt (some (.int (if okN x nt then bt1 (f 40) x else -1))) [(m0, .inr (5, [.ref ma, .int (nI nt), .int (nI pp), .int (th), .ref mp, .int (rn), .int (ro), .int (to), .int (wt), .int (hn), .int (ho), .ref mt, .int (nI tl), .int (fa), .int (bk), .int (ba), .int (spt), .int (hre), .int (tok), .int (val), .ref mc, .ref ml, .ref mn, .int (nI se), .ref mk, .ref mg, .ref mh, .ref mq, .int (tn)])), (ma, .inl (E.2.1 1, 172, .inl (if okN x nt then mkF f 40 x P else f)))]) := by
  refine Ct.of (own := RX5) (nm := "stop") (lv := [(0, .ref m0), (1, .int (x)), (2, .int (if P then 1 else 0))]) (by decide) rfl rfl (Nat.le_of_ble_eq_true rfl) rfl ?_
  refine v_aload_n (pc := 0) 0 dX5_stop_0 rfl rfl ?_
  refine v_iload_n (pc := 1) 1 dX5_stop_1 rfl rfl ?_
  refine v_callV (pc := 2) (rest := []) [0] 0 lk_966 (c_X5_isNote l E m0 ma mp mt mc ml mn mk mg mh mq nt pp tl se th rn ro to wt hn ho fa bk ba spt hre tok val tn x (by first | assumption | omega)) dX5_stop_2 rfl rfl (Nat.le_of_ble_eq_true rfl) (by decide) rfl rfl rfl (by decide) rfl (Rt.len rfl) (Rt.go ?_)
  refine v_w (ws' := [(m0, .inr (5, [.ref ma, .int (nI nt), .int (nI pp), .int (th), .ref mp, .int (rn), .int (ro), .int (to), .int (wt), .int (hn), .int (ho), .ref mt, .int (nI tl), .int (fa), .int (bk), .int (ba), .int (spt), .int (hre), .int (tok), .int (val), .ref mc, .ref ml, .ref mn, .int (nI se), .ref mk, .ref mg, .ref mh, .ref mq, .int (tn)])), (ma, .inl (E.2.1 1, 172, .inl (f)))]) rfl ?_
  refine v_st (st' := [.int (if okN x nt then 1 else 0)]) rfl ?_
  refine v_ifB_eq (pc := 5) 19 dX5_stop_5 (by decide) (fun c_5 => ?_) (fun c_5 => ?_)
  · skip
    refine v_iconst (pc := 19) (v := -1) dX5_stop_19 (by decide) ?_
    refine v_iret (pc := 20) dX5_stop_20 rfl ⟨rfl, rfl⟩ (Rt.i2 ?_ ?_)
    · skip
      first | simp only [if_neg c_5] | rfl
    · skip
      first | simp only [if_neg c_5] | rfl
  · skip
    refine v_aload_n (pc := 8) 0 dX5_stop_8 rfl rfl ?_
    refine v_bipush (pc := 9) (v := 40) dX5_stop_9 (by decide) ?_
    refine v_iload_n (pc := 11) 1 dX5_stop_11 rfl rfl ?_
    refine v_iload_n (pc := 12) 2 dX5_stop_12 rfl rfl ?_
    refine v_callV (pc := 13) (rest := []) [0, 1] 0 lk_978 (c_X5_marks l E m0 ma mp mt mc ml mn mk mg mh mq nt pp tl se th rn ro to wt hn ho fa bk ba spt hre tok val tn f 40 x P inferInstance (by first | assumption | omega)) dX5_stop_13 rfl rfl (Nat.le_of_ble_eq_true rfl) (by decide) rfl rfl rfl (by decide) rfl (Rt.len rfl) (Rt.go ?_)
    refine v_w (ws' := [(m0, .inr (5, [.ref ma, .int (nI nt), .int (nI pp), .int (th), .ref mp, .int (rn), .int (ro), .int (to), .int (wt), .int (hn), .int (ho), .ref mt, .int (nI tl), .int (fa), .int (bk), .int (ba), .int (spt), .int (hre), .int (tok), .int (val), .ref mc, .ref ml, .ref mn, .int (nI se), .ref mk, .ref mg, .ref mh, .ref mq, .int (tn)])), (ma, .inl (E.2.1 1, 172, .inl (mkF f 40 x P)))]) rfl ?_
    refine v_st (st' := [.int (bt1 (f 40) x)]) rfl ?_
    refine v_goto (pc := 16) 20 dX5_stop_16 (by decide) ?_
    refine v_iret (pc := 20) dX5_stop_20 rfl ⟨rfl, rfl⟩ (Rt.i2 ?_ ?_)
    · skip
      first | simp only [if_pos c_5] | rfl
    · skip
      first | simp only [if_pos c_5] | rfl
theorem c_X5_among (l : Launch) (E : VE) (m0 : Nat) (ma : Nat) (mp : Nat) (mt : Nat) (mc : Nat) (ml : Nat) (mn : Nat) (mk : Nat) (mg : Nat) (mh : Nat) (mq : Nat) (nt : Nat) (pp : Nat) (rl : Nat) (tl : Nat) (se : Nat) (th : Int32) (rn : Int32) (ro : Int32) (to : Int32) (wt : Int32) (hn : Int32) (ho : Int32) (fa : Int32) (bk : Int32) (ba : Int32) (spt : Int32) (hre : Int32) (tok : Int32) (val : Int32) (tn : Int32) (f : Nat → Int32) (k : Int32) (x : Int32) (P : Prop) (dP : Decidable P) (u : Nat) (v : Nat) (h_rl : rl ≤ 8) (h_38 : f 38 = nI rl) (h_nt : nt ≤ 6) (h_u : u < 4) (h_v : v < 4) : Ct l E yX5_among cX5_among 7 (Option.some FieldType.int) 2 46 0 0 [.ref m0, .int (k), .int (x), .int (if P then 1 else 0), .int (nI u), .int (nI v)] [(m0, .inr (5, [.ref ma, .int (nI nt), .int (nI pp), .int (th), .ref mp, .int (rn), .int (ro), .int (to), .int (wt), .int (hn), .int (ho), .ref mt, .int (nI tl), .int (fa), .int (bk), .int (ba), .int (spt), .int (hre), .int (tok), .int (val), .ref mc, .ref ml, .ref mn, .int (nI se), .ref mk, .ref mg, .ref mh, .ref mq, .int (tn)])), (ma, .inl (E.2.1 1, 172, .inl (f)))] (Rt (some (.int (if okN k rl then (if okN x nt then (if P ∧ bt1 (f (6 + 4 * k.toNatClampNeg + v)) x = 1 then -2 else bt1 (f (6 + 4 * k.toNatClampNeg + u)) x) else -1) else -1))) [(m0, .inr (5, [.ref ma, .int (nI nt), .int (nI pp), .int (th), .ref mp, .int (rn), .int (ro), .int (to), .int (wt), .int (hn), .int (ho), .ref mt, .int (nI tl), .int (fa), .int (bk), .int (ba), .int (spt), .int (hre), .int (tok), .int (val), .ref mc, .ref ml, .ref mn, .int (nI se), .ref mk, .ref mg, .ref mh, .ref mq, .int (tn)])), (ma, .inl (E.2.1 1, 172, .inl (if okN k rl then (if okN x nt then (if P ∧ bt1 (f (6 + 4 * k.toNatClampNeg + v)) x = 1 then f else mkF f (6 + 4 * k.toNatClampNeg + u) x P) else f) else f)))]) := by
  refine Ct.of (own := RX5) (nm := "among") (lv := [(0, .ref m0), (1, .int (k)), (2, .int (x)), (3, .int (if P then 1 else 0)), (4, .int (nI u)), (5, .int (nI v))]) (by decide) rfl rfl (Nat.le_of_ble_eq_true rfl) rfl ?_
  refine v_aload_n (pc := 0) 0 dX5_among_0 rfl rfl ?_
  refine v_iload_n (pc := 1) 1 dX5_among_1 rfl rfl ?_
  refine v_callV (pc := 2) (rest := []) [0, 1] 0 lk_953 (c_X5_isRule l E m0 ma mp mt mc ml mn mk mg mh mq nt pp rl tl se th rn ro to wt hn ho fa bk ba spt hre tok val tn f k (by first | assumption | omega) (by first | assumption | omega)) dX5_among_2 rfl rfl (Nat.le_of_ble_eq_true rfl) (by decide) rfl rfl rfl (by decide) rfl (Rt.len rfl) (Rt.go ?_)
  refine v_w (ws' := [(m0, .inr (5, [.ref ma, .int (nI nt), .int (nI pp), .int (th), .ref mp, .int (rn), .int (ro), .int (to), .int (wt), .int (hn), .int (ho), .ref mt, .int (nI tl), .int (fa), .int (bk), .int (ba), .int (spt), .int (hre), .int (tok), .int (val), .ref mc, .ref ml, .ref mn, .int (nI se), .ref mk, .ref mg, .ref mh, .ref mq, .int (tn)])), (ma, .inl (E.2.1 1, 172, .inl (f)))]) rfl ?_
  refine v_st (st' := [.int (if okN k rl then 1 else 0)]) rfl ?_
  refine v_ifB_eq (pc := 5) 16 dX5_among_5 (by decide) (fun c_5 => ?_) (fun c_5 => ?_)
  · skip
    refine v_iconst (pc := 16) (v := -1) dX5_among_16 (by decide) ?_
    refine v_iret (pc := 17) dX5_among_17 rfl ⟨rfl, rfl⟩ (Rt.i2 ?_ ?_)
    · skip
      rw [if_neg c_5]
    · skip
      rw [if_neg c_5]
  · skip
    refine v_aload_n (pc := 8) 0 dX5_among_8 rfl rfl ?_
    refine v_iload_n (pc := 9) 2 dX5_among_9 rfl rfl ?_
    refine v_callV (pc := 10) (rest := []) [0] 0 lk_966 (c_X5_isNote l E m0 ma mp mt mc ml mn mk mg mh mq nt pp tl se th rn ro to wt hn ho fa bk ba spt hre tok val tn x (by first | assumption | omega)) dX5_among_10 rfl rfl (Nat.le_of_ble_eq_true rfl) (by decide) rfl rfl rfl (by decide) rfl (Rt.len rfl) (Rt.go ?_)
    refine v_w (ws' := [(m0, .inr (5, [.ref ma, .int (nI nt), .int (nI pp), .int (th), .ref mp, .int (rn), .int (ro), .int (to), .int (wt), .int (hn), .int (ho), .ref mt, .int (nI tl), .int (fa), .int (bk), .int (ba), .int (spt), .int (hre), .int (tok), .int (val), .ref mc, .ref ml, .ref mn, .int (nI se), .ref mk, .ref mg, .ref mh, .ref mq, .int (tn)])), (ma, .inl (E.2.1 1, 172, .inl (f)))]) rfl ?_
    refine v_st (st' := [.int (if okN x nt then 1 else 0)]) rfl ?_
    refine v_ifB_ne (pc := 13) 18 dX5_among_13 (by decide) (fun c_13 => ?_) (fun c_13 => ?_)
    · skip
      obtain ⟨j, hj, rfl⟩ := okN_ex c_5 (by omega)
      have hjc : (nI j).toNatClampNeg = j := nI_clamp (by omega)
      refine v_bipush (pc := 18) (v := 6) dX5_among_18 (by decide) ?_
      refine v_iconst (pc := 20) (v := 4) dX5_among_20 (by decide) ?_
      refine v_iload_n (pc := 21) 1 dX5_among_21 rfl rfl ?_
      refine v_imul (pc := 22) dX5_among_22 ?_
      refine v_st (st' := [.int (nI (4 * j)), .int (6)]) (congrArg (fun z => Value.int z :: _) (pk_mul 4 j)) ?_
      refine v_iadd (pc := 23) dX5_among_23 ?_
      refine v_st (st' := [.int (nI (6 + (4 * j)))]) (congrArg (fun z => Value.int z :: _) (nI_add 6 (4 * j))) ?_
      refine v_istore (pc := 24) (lv' := [(6, .int (nI (6 + (4 * j)))), (0, .ref m0), (1, .int ((nI j))), (2, .int (x)), (3, .int (if P then 1 else 0)), (4, .int (nI u)), (5, .int (nI v))]) dX5_among_24 (by decide) rfl ?_
      refine v_iload_n (pc := 26) 4 dX5_among_26 rfl rfl ?_
      refine v_ifB_eq (pc := 27) 53 dX5_among_27 (by decide) (fun c_27 => ?_) (fun c_27 => ?_)
      · skip
        refine v_aload_n (pc := 53) 1 dX5_among_53 rfl rfl ?_
        refine v_iload (pc := 54) 0 dX5_among_54 rfl ?_
        refine v_iload (pc := 56) 5 dX5_among_56 rfl ?_
        refine v_iadd (pc := 58) dX5_among_58 ?_
        refine v_st (st' := [.int (nI ((6 + (4 * j)) + u)), .ref m0]) (congrArg (fun z => Value.int z :: _) (nI_add (6 + (4 * j)) u)) ?_
        refine v_iload_n (pc := 59) 3 dX5_among_59 rfl rfl ?_
        refine v_iload_n (pc := 60) 4 dX5_among_60 rfl rfl ?_
        refine v_callV (pc := 61) (rest := []) [0, 1] 0 lk_978 (c_X5_marks l E m0 ma mp mt mc ml mn mk mg mh mq nt pp tl se th rn ro to wt hn ho fa bk ba spt hre tok val tn f ((6 + (4 * j)) + u) x P inferInstance (by first | assumption | omega)) dX5_among_61 rfl rfl (Nat.le_of_ble_eq_true rfl) (by decide) rfl rfl rfl (by decide) rfl (Rt.len rfl) (Rt.go ?_)
        refine v_w (ws' := [(m0, .inr (5, [.ref ma, .int (nI nt), .int (nI pp), .int (th), .ref mp, .int (rn), .int (ro), .int (to), .int (wt), .int (hn), .int (ho), .ref mt, .int (nI tl), .int (fa), .int (bk), .int (ba), .int (spt), .int (hre), .int (tok), .int (val), .ref mc, .ref ml, .ref mn, .int (nI se), .ref mk, .ref mg, .ref mh, .ref mq, .int (tn)])), (ma, .inl (E.2.1 1, 172, .inl (mkF f ((6 + (4 * j)) + u) x P)))]) rfl ?_
        refine v_st (st' := [.int (bt1 (f ((6 + (4 * j)) + u)) x)]) rfl ?_
        refine v_iret (pc := 64) dX5_among_64 rfl ⟨rfl, rfl⟩ (Rt.i2 ?_ ?_)
        · skip
          rw [if_pos c_5, if_pos c_13, hjc, if_neg (fun q => c_27 q.1)]
        · skip
          rw [if_pos c_5, if_pos c_13, hjc, if_neg (fun q => c_27 q.1)]
      · skip
        refine v_aload_n (pc := 30) 1 dX5_among_30 rfl rfl ?_
        refine gf_787 (pc := 31) 0 dX5_among_31 rfl rfl ?_
        refine v_iload (pc := 34) 0 dX5_among_34 rfl ?_
        refine v_iload (pc := 36) 6 dX5_among_36 rfl ?_
        refine v_iadd (pc := 38) dX5_among_38 ?_
        refine v_st (st' := [.int (nI ((6 + (4 * j)) + v)), .ref ma]) (congrArg (fun z => Value.int z :: _) (nI_add (6 + (4 * j)) v)) ?_
        refine v_ialdN (pc := 39) 1 1 ((6 + (4 * j)) + v) dX5_among_39 rfl rfl rfl (by omega) (by decide) ?_
        refine v_iload_n (pc := 40) 3 dX5_among_40 rfl rfl ?_
        refine v_ishr (pc := 41) dX5_among_41 ?_
        refine v_iconst (pc := 42) (v := 1) dX5_among_42 (by decide) ?_
        refine v_iand (pc := 43) dX5_among_43 ?_
        refine v_iconst (pc := 44) (v := 1) dX5_among_44 (by decide) ?_
        refine v_icmp_ne (pc := 45) 53 dX5_among_45 (by decide) (fun c_45 => ?_) (fun c_45 => ?_)
        · skip
          refine v_aload_n (pc := 53) 1 dX5_among_53 rfl rfl ?_
          refine v_iload (pc := 54) 0 dX5_among_54 rfl ?_
          refine v_iload (pc := 56) 5 dX5_among_56 rfl ?_
          refine v_iadd (pc := 58) dX5_among_58 ?_
          refine v_st (st' := [.int (nI ((6 + (4 * j)) + u)), .ref m0]) (congrArg (fun z => Value.int z :: _) (nI_add (6 + (4 * j)) u)) ?_
          refine v_iload_n (pc := 59) 3 dX5_among_59 rfl rfl ?_
          refine v_iload_n (pc := 60) 4 dX5_among_60 rfl rfl ?_
          refine v_callV (pc := 61) (rest := []) [0, 1] 0 lk_978 (c_X5_marks l E m0 ma mp mt mc ml mn mk mg mh mq nt pp tl se th rn ro to wt hn ho fa bk ba spt hre tok val tn f ((6 + (4 * j)) + u) x P inferInstance (by first | assumption | omega)) dX5_among_61 rfl rfl (Nat.le_of_ble_eq_true rfl) (by decide) rfl rfl rfl (by decide) rfl (Rt.len rfl) (Rt.go ?_)
          refine v_w (ws' := [(m0, .inr (5, [.ref ma, .int (nI nt), .int (nI pp), .int (th), .ref mp, .int (rn), .int (ro), .int (to), .int (wt), .int (hn), .int (ho), .ref mt, .int (nI tl), .int (fa), .int (bk), .int (ba), .int (spt), .int (hre), .int (tok), .int (val), .ref mc, .ref ml, .ref mn, .int (nI se), .ref mk, .ref mg, .ref mh, .ref mq, .int (tn)])), (ma, .inl (E.2.1 1, 172, .inl (mkF f ((6 + (4 * j)) + u) x P)))]) rfl ?_
          refine v_st (st' := [.int (bt1 (f ((6 + (4 * j)) + u)) x)]) rfl ?_
          refine v_iret (pc := 64) dX5_among_64 rfl ⟨rfl, rfl⟩ (Rt.i2 ?_ ?_)
          · skip
            rw [if_pos c_5, if_pos c_13, hjc, if_neg (fun q => c_45 q.2)]
          · skip
            rw [if_pos c_5, if_pos c_13, hjc, if_neg (fun q => c_45 q.2)]
        · skip
          refine v_bipush (pc := 48) (v := -2) dX5_among_48 (by decide) ?_
          refine v_goto (pc := 50) 64 dX5_among_50 (by decide) ?_
          refine v_iret (pc := 64) dX5_among_64 rfl ⟨rfl, rfl⟩ (Rt.i2 ?_ ?_)
          · skip
            rw [if_pos c_5, if_pos c_13, hjc, if_pos ⟨c_27, c_45⟩]
          · skip
            rw [if_pos c_5, if_pos c_13, hjc, if_pos ⟨c_27, c_45⟩]
    · skip
      refine v_iconst (pc := 16) (v := -1) dX5_among_16 (by decide) ?_
      refine v_iret (pc := 17) dX5_among_17 rfl ⟨rfl, rfl⟩ (Rt.i2 ?_ ?_)
      · skip
        rw [if_pos c_5, if_neg c_13]
      · skip
        rw [if_pos c_5, if_neg c_13]
theorem c_X5_need (l : Launch) (E : VE) (m0 : Nat) (ma : Nat) (mp : Nat) (mt : Nat) (mc : Nat) (ml : Nat) (mn : Nat) (mk : Nat) (mg : Nat) (mh : Nat) (mq : Nat) (nt : Nat) (pp : Nat) (rl : Nat) (tl : Nat) (se : Nat) (th : Int32) (rn : Int32) (ro : Int32) (to : Int32) (wt : Int32) (hn : Int32) (ho : Int32) (fa : Int32) (bk : Int32) (ba : Int32) (spt : Int32) (hre : Int32) (tok : Int32) (val : Int32) (tn : Int32) (f : Nat → Int32) (k : Int32) (x : Int32) (P : Prop) (dP : Decidable P) (h_rl : rl ≤ 8) (h_38 : f 38 = nI rl) (h_nt : nt ≤ 6) : Ct l E yX5_need cX5_need 4 (Option.some FieldType.int) 3 72 0 0 [.ref m0, .int (k), .int (x), .int (if P then 1 else 0)] [(m0, .inr (5, [.ref ma, .int (nI nt), .int (nI pp), .int (th), .ref mp, .int (rn), .int (ro), .int (to), .int (wt), .int (hn), .int (ho), .ref mt, .int (nI tl), .int (fa), .int (bk), .int (ba), .int (spt), .int (hre), .int (tok), .int (val), .ref mc, .ref ml, .ref mn, .int (nI se), .ref mk, .ref mg, .ref mh, .ref mq, .int (tn)])), (ma, .inl (E.2.1 1, 172, .inl (f)))] (Rt (some (.int (if okN k rl then (if okN x nt then (if P ∧ bt1 (f (6 + 4 * k.toNatClampNeg + 3)) x = 1 then -2 else bt1 (f (6 + 4 * k.toNatClampNeg + 2)) x) else -1) else -1))) [(m0, .inr (5, [.ref ma, .int (nI nt), .int (nI pp), .int (th), .ref mp, .int (rn), .int (ro), .int (to), .int (wt), .int (hn), .int (ho), .ref mt, .int (nI tl), .int (fa), .int (bk), .int (ba), .int (spt), .int (hre), .int (tok), .int (val), .ref mc, .ref ml, .ref mn, .int (nI se), .ref mk, .ref mg, .ref mh, .ref mq, .int (tn)])), (ma, .inl (E.2.1 1, 172, .inl (if okN k rl then (if okN x nt then (if P ∧ bt1 (f (6 + 4 * k.toNatClampNeg + 3)) x = 1 then f else mkF f (6 + 4 * k.toNatClampNeg + 2) x P) else f) else f)))]) := by
  refine Ct.of (own := RX5) (nm := "need") (lv := [(0, .ref m0), (1, .int (k)), (2, .int (x)), (3, .int (if P then 1 else 0))]) (by decide) rfl rfl (Nat.le_of_ble_eq_true rfl) rfl ?_
  refine v_aload_n (pc := 0) 0 dX5_need_0 rfl rfl ?_
  refine v_iload_n (pc := 1) 1 dX5_need_1 rfl rfl ?_
  refine v_iload_n (pc := 2) 2 dX5_need_2 rfl rfl ?_
  refine v_iload_n (pc := 3) 3 dX5_need_3 rfl rfl ?_
  refine v_iconst (pc := 4) (v := 2) dX5_need_4 (by decide) ?_
  refine v_iconst (pc := 5) (v := 3) dX5_need_5 (by decide) ?_
  refine v_callV (pc := 6) (rest := []) [0, 1] 0 lk_998 (c_X5_among l E m0 ma mp mt mc ml mn mk mg mh mq nt pp rl tl se th rn ro to wt hn ho fa bk ba spt hre tok val tn f k x P inferInstance 2 3 (by first | assumption | omega) (by first | assumption | omega) (by first | assumption | omega) (by first | assumption | omega) (by first | assumption | omega)) dX5_need_6 rfl rfl (Nat.le_of_ble_eq_true rfl) (by decide) rfl rfl rfl (by decide) rfl (Rt.len rfl) (Rt.go ?_)
  refine v_w (ws' := [(m0, .inr (5, [.ref ma, .int (nI nt), .int (nI pp), .int (th), .ref mp, .int (rn), .int (ro), .int (to), .int (wt), .int (hn), .int (ho), .ref mt, .int (nI tl), .int (fa), .int (bk), .int (ba), .int (spt), .int (hre), .int (tok), .int (val), .ref mc, .ref ml, .ref mn, .int (nI se), .ref mk, .ref mg, .ref mh, .ref mq, .int (tn)])), (ma, .inl (E.2.1 1, 172, .inl (if okN k rl then (if okN x nt then (if P ∧ bt1 (f (6 + 4 * k.toNatClampNeg + 3)) x = 1 then f else mkF f (6 + 4 * k.toNatClampNeg + 2) x P) else f) else f)))]) rfl ?_
  refine v_st (st' := [.int (if okN k rl then (if okN x nt then (if P ∧ bt1 (f (6 + 4 * k.toNatClampNeg + 3)) x = 1 then -2 else bt1 (f (6 + 4 * k.toNatClampNeg + 2)) x) else -1) else -1)]) rfl ?_
  refine v_iret (pc := 9) dX5_need_9 rfl ⟨rfl, rfl⟩ (Rt.i2 ?_ ?_)
  · skip
    rfl
  · skip
    rfl
theorem c_X5_bar (l : Launch) (E : VE) (m0 : Nat) (ma : Nat) (mp : Nat) (mt : Nat) (mc : Nat) (ml : Nat) (mn : Nat) (mk : Nat) (mg : Nat) (mh : Nat) (mq : Nat) (nt : Nat) (pp : Nat) (rl : Nat) (tl : Nat) (se : Nat) (th : Int32) (rn : Int32) (ro : Int32) (to : Int32) (wt : Int32) (hn : Int32) (ho : Int32) (fa : Int32) (bk : Int32) (ba : Int32) (spt : Int32) (hre : Int32) (tok : Int32) (val : Int32) (tn : Int32) (f : Nat → Int32) (k : Int32) (x : Int32) (P : Prop) (dP : Decidable P) (h_rl : rl ≤ 8) (h_38 : f 38 = nI rl) (h_nt : nt ≤ 6) : Ct l E yX5_bar cX5_bar 4 (Option.some FieldType.int) 3 72 0 0 [.ref m0, .int (k), .int (x), .int (if P then 1 else 0)] [(m0, .inr (5, [.ref ma, .int (nI nt), .int (nI pp), .int (th), .ref mp, .int (rn), .int (ro), .int (to), .int (wt), .int (hn), .int (ho), .ref mt, .int (nI tl), .int (fa), .int (bk), .int (ba), .int (spt), .int (hre), .int (tok), .int (val), .ref mc, .ref ml, .ref mn, .int (nI se), .ref mk, .ref mg, .ref mh, .ref mq, .int (tn)])), (ma, .inl (E.2.1 1, 172, .inl (f)))] (Rt (some (.int (if okN k rl then (if okN x nt then (if P ∧ bt1 (f (6 + 4 * k.toNatClampNeg + 2)) x = 1 then -2 else bt1 (f (6 + 4 * k.toNatClampNeg + 3)) x) else -1) else -1))) [(m0, .inr (5, [.ref ma, .int (nI nt), .int (nI pp), .int (th), .ref mp, .int (rn), .int (ro), .int (to), .int (wt), .int (hn), .int (ho), .ref mt, .int (nI tl), .int (fa), .int (bk), .int (ba), .int (spt), .int (hre), .int (tok), .int (val), .ref mc, .ref ml, .ref mn, .int (nI se), .ref mk, .ref mg, .ref mh, .ref mq, .int (tn)])), (ma, .inl (E.2.1 1, 172, .inl (if okN k rl then (if okN x nt then (if P ∧ bt1 (f (6 + 4 * k.toNatClampNeg + 2)) x = 1 then f else mkF f (6 + 4 * k.toNatClampNeg + 3) x P) else f) else f)))]) := by
  refine Ct.of (own := RX5) (nm := "bar") (lv := [(0, .ref m0), (1, .int (k)), (2, .int (x)), (3, .int (if P then 1 else 0))]) (by decide) rfl rfl (Nat.le_of_ble_eq_true rfl) rfl ?_
  refine v_aload_n (pc := 0) 0 dX5_bar_0 rfl rfl ?_
  refine v_iload_n (pc := 1) 1 dX5_bar_1 rfl rfl ?_
  refine v_iload_n (pc := 2) 2 dX5_bar_2 rfl rfl ?_
  refine v_iload_n (pc := 3) 3 dX5_bar_3 rfl rfl ?_
  refine v_iconst (pc := 4) (v := 3) dX5_bar_4 (by decide) ?_
  refine v_iconst (pc := 5) (v := 2) dX5_bar_5 (by decide) ?_
  refine v_callV (pc := 6) (rest := []) [0, 1] 0 lk_998 (c_X5_among l E m0 ma mp mt mc ml mn mk mg mh mq nt pp rl tl se th rn ro to wt hn ho fa bk ba spt hre tok val tn f k x P inferInstance 3 2 (by first | assumption | omega) (by first | assumption | omega) (by first | assumption | omega) (by first | assumption | omega) (by first | assumption | omega)) dX5_bar_6 rfl rfl (Nat.le_of_ble_eq_true rfl) (by decide) rfl rfl rfl (by decide) rfl (Rt.len rfl) (Rt.go ?_)
  refine v_w (ws' := [(m0, .inr (5, [.ref ma, .int (nI nt), .int (nI pp), .int (th), .ref mp, .int (rn), .int (ro), .int (to), .int (wt), .int (hn), .int (ho), .ref mt, .int (nI tl), .int (fa), .int (bk), .int (ba), .int (spt), .int (hre), .int (tok), .int (val), .ref mc, .ref ml, .ref mn, .int (nI se), .ref mk, .ref mg, .ref mh, .ref mq, .int (tn)])), (ma, .inl (E.2.1 1, 172, .inl (if okN k rl then (if okN x nt then (if P ∧ bt1 (f (6 + 4 * k.toNatClampNeg + 2)) x = 1 then f else mkF f (6 + 4 * k.toNatClampNeg + 3) x P) else f) else f)))]) rfl ?_
  refine v_st (st' := [.int (if okN k rl then (if okN x nt then (if P ∧ bt1 (f (6 + 4 * k.toNatClampNeg + 2)) x = 1 then -2 else bt1 (f (6 + 4 * k.toNatClampNeg + 3)) x) else -1) else -1)]) rfl ?_
  refine v_iret (pc := 9) dX5_bar_9 rfl ⟨rfl, rfl⟩ (Rt.i2 ?_ ?_)
  · skip
    rfl
  · skip
    rfl
theorem c_X5_pay (l : Launch) (E : VE) (m0 : Nat) (ma : Nat) (mp : Nat) (mt : Nat) (mc : Nat) (ml : Nat) (mn : Nat) (mk : Nat) (mg : Nat) (mh : Nat) (mq : Nat) (nt : Nat) (pp : Nat) (tl : Nat) (se : Nat) (th : Int32) (rn : Int32) (ro : Int32) (to : Int32) (wt : Int32) (hn : Int32) (ho : Int32) (fa : Int32) (bk : Int32) (ba : Int32) (spt : Int32) (hre : Int32) (tok : Int32) (val : Int32) (tn : Int32) (f : Nat → Int32) (x : Int32) (v : Int32) (h_nt : nt ≤ 6) : Ct l E yX5_pay cX5_pay 4 (Option.some FieldType.int) 2 46 0 0 [.ref m0, .int (x), .int (v)] [(m0, .inr (5, [.ref ma, .int (nI nt), .int (nI pp), .int (th), .ref mp, .int (rn), .int (ro), .int (to), .int (wt), .int (hn), .int (ho), .ref mt, .int (nI tl), .int (fa), .int (bk), .int (ba), .int (spt), .int (hre), .int (tok), .int (val), .ref mc, .ref ml, .ref mn, .int (nI se), .ref mk, .ref mg, .ref mh, .ref mq, .int (tn)])), (ma, .inl (E.2.1 1, 172, .inl (f)))] (Rt (some (.int (if okN x nt then (if ¬ v < -9 ∧ ¬ 9 < v then 100 + f x.toNatClampNeg else -1) else -1))) [(m0, .inr (5, [.ref ma, .int (nI nt), .int (nI pp), .int (th), .ref mp, .int (rn), .int (ro), .int (to), .int (wt), .int (hn), .int (ho), .ref mt, .int (nI tl), .int (fa), .int (bk), .int (ba), .int (spt), .int (hre), .int (tok), .int (val), .ref mc, .ref ml, .ref mn, .int (nI se), .ref mk, .ref mg, .ref mh, .ref mq, .int (tn)])), (ma, .inl (E.2.1 1, 172, .inl (if okN x nt then (if ¬ v < -9 ∧ ¬ 9 < v then upd f x.toNatClampNeg v else f) else f)))]) := by
  refine Ct.of (own := RX5) (nm := "pay") (lv := [(0, .ref m0), (1, .int (x)), (2, .int (v))]) (by decide) rfl rfl (Nat.le_of_ble_eq_true rfl) rfl ?_
  refine v_aload_n (pc := 0) 0 dX5_pay_0 rfl rfl ?_
  refine v_iload_n (pc := 1) 1 dX5_pay_1 rfl rfl ?_
  refine v_callV (pc := 2) (rest := []) [0] 0 lk_966 (c_X5_isNote l E m0 ma mp mt mc ml mn mk mg mh mq nt pp tl se th rn ro to wt hn ho fa bk ba spt hre tok val tn x (by first | assumption | omega)) dX5_pay_2 rfl rfl (Nat.le_of_ble_eq_true rfl) (by decide) rfl rfl rfl (by decide) rfl (Rt.len rfl) (Rt.go ?_)
  refine v_w (ws' := [(m0, .inr (5, [.ref ma, .int (nI nt), .int (nI pp), .int (th), .ref mp, .int (rn), .int (ro), .int (to), .int (wt), .int (hn), .int (ho), .ref mt, .int (nI tl), .int (fa), .int (bk), .int (ba), .int (spt), .int (hre), .int (tok), .int (val), .ref mc, .ref ml, .ref mn, .int (nI se), .ref mk, .ref mg, .ref mh, .ref mq, .int (tn)])), (ma, .inl (E.2.1 1, 172, .inl (f)))]) rfl ?_
  refine v_st (st' := [.int (if okN x nt then 1 else 0)]) rfl ?_
  refine v_ifB_eq (pc := 5) 22 dX5_pay_5 (by decide) (fun c_5 => ?_) (fun c_5 => ?_)
  · skip
    refine v_iconst (pc := 22) (v := -1) dX5_pay_22 (by decide) ?_
    refine v_iret (pc := 23) dX5_pay_23 rfl ⟨rfl, rfl⟩ (Rt.i2 ?_ ?_)
    · skip
      first | simp only [if_neg c_5] | rfl
    · skip
      first | simp only [if_neg c_5] | rfl
  · skip
    refine v_iload_n (pc := 8) 2 dX5_pay_8 rfl rfl ?_
    refine v_i2l (pc := 9) dX5_pay_9 ?_
    refine v_ldc2 (pc := 10) dX5_pay_10 tb_1010 ?_
    refine v_ldc2 (pc := 13) dX5_pay_13 tb_1011 ?_
    refine v_callS (pc := 16) (rest := []) [] lk_880 (c_X5_in l E (Int32.toInt64 (v)) (-9) 9) dX5_pay_16 rfl rfl (Nat.le_of_ble_eq_true rfl) (by decide) (by decide) rfl (Rt.len rfl) (Rt.go ?_)
    refine v_w (ws' := [(m0, .inr (5, [.ref ma, .int (nI nt), .int (nI pp), .int (th), .ref mp, .int (rn), .int (ro), .int (to), .int (wt), .int (hn), .int (ho), .ref mt, .int (nI tl), .int (fa), .int (bk), .int (ba), .int (spt), .int (hre), .int (tok), .int (val), .ref mc, .ref ml, .ref mn, .int (nI se), .ref mk, .ref mg, .ref mh, .ref mq, .int (tn)])), (ma, .inl (E.2.1 1, 172, .inl (f)))]) rfl ?_
    refine v_st (st' := [.int (if ¬ (Int32.toInt64 (v)) < (-9) ∧ ¬ 9 < (Int32.toInt64 (v)) then 1 else 0)]) rfl ?_
    refine v_st (st' := [.int (if ¬ v < -9 ∧ ¬ 9 < v then 1 else 0)]) (ite_st (inK (a := -9) (b := 9)) _) ?_
    refine v_ifB_ne (pc := 19) 24 dX5_pay_19 (by decide) (fun c_19 => ?_) (fun c_19 => ?_)
    · skip
      refine v_aload_n (pc := 24) 0 dX5_pay_24 rfl rfl ?_
      refine gf_787 (pc := 25) 0 dX5_pay_25 rfl rfl ?_
      refine v_iload_n (pc := 28) 1 dX5_pay_28 rfl rfl ?_
      refine v_iald (pc := 29) 1 1 dX5_pay_29 rfl rfl (okN_in c_5.1 c_5.2 (by omega) (by decide)) ?_
      refine v_istore_n (pc := 30) (lv' := [(3, .int ((f) (Int32.toNatClampNeg (x)))), (0, .ref m0), (1, .int (x)), (2, .int (v))]) dX5_pay_30 rfl (by decide) rfl ?_
      refine v_aload_n (pc := 31) 1 dX5_pay_31 rfl rfl ?_
      refine gf_787 (pc := 32) 0 dX5_pay_32 rfl rfl ?_
      refine v_iload_n (pc := 35) 2 dX5_pay_35 rfl rfl ?_
      refine v_iload_n (pc := 36) 3 dX5_pay_36 rfl rfl ?_
      refine v_iast (pc := 37) (ws' := [(m0, .inr (5, [.ref ma, .int (nI nt), .int (nI pp), .int (th), .ref mp, .int (rn), .int (ro), .int (to), .int (wt), .int (hn), .int (ho), .ref mt, .int (nI tl), .int (fa), .int (bk), .int (ba), .int (spt), .int (hre), .int (tok), .int (val), .ref mc, .ref ml, .ref mn, .int (nI se), .ref mk, .ref mg, .ref mh, .ref mq, .int (tn)])), (ma, .inl (E.2.1 1, 172, .inl (upd (f) (Int32.toNatClampNeg (x)) (v))))]) 1 1 dX5_pay_37 rfl rfl (okN_in c_5.1 c_5.2 (by omega) (by decide)) rfl ?_
      refine v_bipush (pc := 38) (v := 100) dX5_pay_38 (by decide) ?_
      refine v_iload_n (pc := 40) 0 dX5_pay_40 rfl rfl ?_
      refine v_iadd (pc := 41) dX5_pay_41 ?_
      refine v_iret (pc := 42) dX5_pay_42 rfl ⟨rfl, rfl⟩ (Rt.i2 ?_ ?_)
      · skip
        first | simp only [if_pos c_5, if_pos c_19] | rfl
      · skip
        first | simp only [if_pos c_5, if_pos c_19] | rfl
    · skip
      refine v_iconst (pc := 22) (v := -1) dX5_pay_22 (by decide) ?_
      refine v_iret (pc := 23) dX5_pay_23 rfl ⟨rfl, rfl⟩ (Rt.i2 ?_ ?_)
      · skip
        first | simp only [if_pos c_5, if_neg c_19] | rfl
      · skip
        first | simp only [if_pos c_5, if_neg c_19] | rfl
theorem c_X5_cut (l : Launch) (E : VE) (m0 : Nat) (ma : Nat) (mp : Nat) (mt : Nat) (mc : Nat) (ml : Nat) (mn : Nat) (mk : Nat) (mg : Nat) (mh : Nat) (mq : Nat) (nt : Nat) (pp : Nat) (rl : Nat) (tl : Nat) (se : Nat) (th : Int32) (rn : Int32) (ro : Int32) (to : Int32) (wt : Int32) (hn : Int32) (ho : Int32) (fa : Int32) (bk : Int32) (ba : Int32) (spt : Int32) (hre : Int32) (tok : Int32) (val : Int32) (tn : Int32) (f : Nat → Int32) (n : Int32) (h_rl : rl ≤ 8) (h_38 : f 38 = nI rl) : Ct l E yX5_cut cX5_cut 3 (Option.some FieldType.int) 1 25 0 0 [.ref m0, .int (n)] [(m0, .inr (5, [.ref ma, .int (nI nt), .int (nI pp), .int (th), .ref mp, .int (rn), .int (ro), .int (to), .int (wt), .int (hn), .int (ho), .ref mt, .int (nI tl), .int (fa), .int (bk), .int (ba), .int (spt), .int (hre), .int (tok), .int (val), .ref mc, .ref ml, .ref mn, .int (nI se), .ref mk, .ref mg, .ref mh, .ref mq, .int (tn)])), (ma, .inl (E.2.1 1, 172, .inl (f)))] (Rt (some (.int (if ¬ n < 0 ∧ ¬ nI rl < n then nI rl else -1))) [(m0, .inr (5, [.ref ma, .int (nI nt), .int (nI pp), .int (th), .ref mp, .int (rn), .int (ro), .int (to), .int (wt), .int (hn), .int (ho), .ref mt, .int (nI tl), .int (fa), .int (bk), .int (ba), .int (spt), .int (hre), .int (tok), .int (val), .ref mc, .ref ml, .ref mn, .int (nI se), .ref mk, .ref mg, .ref mh, .ref mq, .int (tn)])), (ma, .inl (E.2.1 1, 172, .inl (if ¬ n < 0 ∧ ¬ nI rl < n then upd f 38 n else f)))]) := by
  refine Ct.of (own := RX5) (nm := "cut") (lv := [(0, .ref m0), (1, .int (n))]) (by decide) rfl rfl (Nat.le_of_ble_eq_true rfl) rfl ?_
  refine v_iload_n (pc := 0) 1 dX5_cut_0 rfl rfl ?_
  refine v_i2l (pc := 1) dX5_cut_1 ?_
  refine v_lconst (pc := 2) (v := 0) dX5_cut_2 (by decide) ?_
  refine v_aload_n (pc := 3) 0 dX5_cut_3 rfl rfl ?_
  refine gf_787 (pc := 4) 0 dX5_cut_4 rfl rfl ?_
  refine v_bipush (pc := 7) (v := 38) dX5_cut_7 (by decide) ?_
  refine v_ialdN (pc := 9) 1 1 (38) dX5_cut_9 rfl rfl rfl (by decide) (by decide) ?_
  refine v_st (st' := [.int (nI rl), .long (0), .long (Int32.toInt64 (n))]) (by rw [h_38]) ?_
  refine v_i2l (pc := 10) dX5_cut_10 ?_
  refine v_callS (pc := 11) (rest := []) [] lk_880 (c_X5_in l E (Int32.toInt64 (n)) 0 (Int32.toInt64 (nI rl))) dX5_cut_11 rfl rfl (Nat.le_of_ble_eq_true rfl) (by decide) (by decide) rfl (Rt.len rfl) (Rt.go ?_)
  refine v_w (ws' := [(m0, .inr (5, [.ref ma, .int (nI nt), .int (nI pp), .int (th), .ref mp, .int (rn), .int (ro), .int (to), .int (wt), .int (hn), .int (ho), .ref mt, .int (nI tl), .int (fa), .int (bk), .int (ba), .int (spt), .int (hre), .int (tok), .int (val), .ref mc, .ref ml, .ref mn, .int (nI se), .ref mk, .ref mg, .ref mh, .ref mq, .int (tn)])), (ma, .inl (E.2.1 1, 172, .inl (f)))]) rfl ?_
  refine v_st (st' := [.int (if ¬ (Int32.toInt64 (n)) < 0 ∧ ¬ (Int32.toInt64 (nI rl)) < (Int32.toInt64 (n)) then 1 else 0)]) rfl ?_
  refine v_st (st' := [.int (if ¬ n < 0 ∧ ¬ nI rl < n then 1 else 0)]) (ite_st (inK (a := 0)) _) ?_
  refine v_ifB_ne (pc := 14) 19 dX5_cut_14 (by decide) (fun c_14 => ?_) (fun c_14 => ?_)
  · skip
    refine v_aload_n (pc := 19) 0 dX5_cut_19 rfl rfl ?_
    refine gf_787 (pc := 20) 0 dX5_cut_20 rfl rfl ?_
    refine v_bipush (pc := 23) (v := 38) dX5_cut_23 (by decide) ?_
    refine v_ialdN (pc := 25) 1 1 (38) dX5_cut_25 rfl rfl rfl (by decide) (by decide) ?_
    refine v_st (st' := [.int (nI rl)]) (by rw [h_38]) ?_
    refine v_istore_n (pc := 26) (lv' := [(2, .int (nI rl)), (0, .ref m0), (1, .int (n))]) dX5_cut_26 rfl (by decide) rfl ?_
    refine v_aload_n (pc := 27) 1 dX5_cut_27 rfl rfl ?_
    refine gf_787 (pc := 28) 0 dX5_cut_28 rfl rfl ?_
    refine v_bipush (pc := 31) (v := 38) dX5_cut_31 (by decide) ?_
    refine v_iload_n (pc := 33) 2 dX5_cut_33 rfl rfl ?_
    refine v_iastN (pc := 34) (ws' := [(m0, .inr (5, [.ref ma, .int (nI nt), .int (nI pp), .int (th), .ref mp, .int (rn), .int (ro), .int (to), .int (wt), .int (hn), .int (ho), .ref mt, .int (nI tl), .int (fa), .int (bk), .int (ba), .int (spt), .int (hre), .int (tok), .int (val), .ref mc, .ref ml, .ref mn, .int (nI se), .ref mk, .ref mg, .ref mh, .ref mq, .int (tn)])), (ma, .inl (E.2.1 1, 172, .inl (upd (f) (38) (n))))]) 1 1 (38) dX5_cut_34 rfl rfl rfl (by decide) (by decide) rfl ?_
    refine v_iload_n (pc := 35) 0 dX5_cut_35 rfl rfl ?_
    refine v_iret (pc := 36) dX5_cut_36 rfl ⟨rfl, rfl⟩ (Rt.i2 ?_ ?_)
    · skip
      first | simp only [if_pos c_14] | rfl
    · skip
      first | simp only [if_pos c_14] | rfl
  · skip
    refine v_iconst (pc := 17) (v := -1) dX5_cut_17 (by decide) ?_
    refine v_iret (pc := 18) dX5_cut_18 rfl ⟨rfl, rfl⟩ (Rt.i2 ?_ ?_)
    · skip
      first | simp only [if_neg c_14] | rfl
    · skip
      first | simp only [if_neg c_14] | rfl
