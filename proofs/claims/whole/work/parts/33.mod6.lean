/-! the model's reading -/
def bA (b : Nat → Int32) (n k : Nat) : Int32 := if k < n then b k else -4
theorem bA_in {b : Nat → Int32} {n k : Nat} (h : k < n) : bA b n k = b k := if_pos h
theorem bS {b : Nat → Int32} {n p : Nat} : bA b n p = 32 ↔ (p < n ∧ qB (b p) = true) := by
  unfold bA qB
  split
  · rename_i h; exact ⟨fun q => ⟨h, decide_eq_true q⟩, fun q => of_decide_eq_true q.2⟩
  · rename_i h; exact ⟨fun q => absurd q (by decide), fun q => absurd q.1 h⟩
theorem bL {b : Nat → Int32} {n p : Nat} : (¬ (bA b n p).toInt64 < 97 ∧ ¬ 122 < (bA b n p).toInt64) ↔ (p < n ∧ qL (b p) = true) := by
  rw [show (97 : Int64) = (97 : Int32).toInt64 by decide, show (122 : Int64) = (122 : Int32).toInt64 by decide, inK]
  unfold bA qL
  split
  · rename_i h; exact ⟨fun q => ⟨h, decide_eq_true q⟩, fun q => of_decide_eq_true q.2⟩
  · rename_i h; exact ⟨fun q => absurd q (by decide), fun q => absurd q.1 h⟩
theorem bD {b : Nat → Int32} {n p : Nat} : (¬ (bA b n p).toInt64 < 48 ∧ ¬ 57 < (bA b n p).toInt64) ↔ (p < n ∧ qD (b p) = true) := by
  rw [show (48 : Int64) = (48 : Int32).toInt64 by decide, show (57 : Int64) = (57 : Int32).toInt64 by decide, inK]
  unfold bA qD
  split
  · rename_i h; exact ⟨fun q => ⟨h, decide_eq_true q⟩, fun q => of_decide_eq_true q.2⟩
  · rename_i h; exact ⟨fun q => absurd q (by decide), fun q => absurd q.1 h⟩
def Md (b : Nat → Int32) (n : Nat) (r : Int32 × Nat) (bk ba : Int32) (sp he : Nat) (to va : Int32) : Prop :=
  sp ≤ n ∧ he ≤ sp ∧ (r.1 = 0 → r.2 ≤ n) ∧ (r.1 = 0 → tkO b n r.2 = true → bk = 0 ∧ sp = tkN b n r.2 ∧ he = tkS b n r.2 ∧ to = tkK b n r.2 ∧ va = tkV b n r.2 0) ∧ (r.1 = 0 → ¬ tkO b n r.2 = true → bk = 1 ∧ ba = nI (tkS b n r.2)) ∧ (¬ r.1 = 0 → bk = r.1 ∧ ba = nI r.2 ∧ 0 < r.1)
section MD
variable {b : Nat → Int32} {n : Nat} {bk ba : Int32} {sp he : Nat} {to va : Int32}
theorem Md.ok {p : Nat} (hp : p ≤ n) (hO : tkO b n p = true) (h1 : bk = 0) (h2 : sp = tkN b n p) (h3 : he = tkS b n p) (h4 : to = tkK b n p) (h5 : va = tkV b n p 0) : Md b n (0, p) bk ba sp he to va :=
  ⟨h2 ▸ (tkN_b hp).2, by rw [h2, h3]; exact (tkN_b hp).1, fun _ => hp, fun _ _ => ⟨h1, h2, h3, h4, h5⟩, fun _ q => absurd hO q, fun q => absurd rfl q⟩
theorem Md.tok {p : Nat} (hp : p ≤ n) (hs : sp ≤ n) (hh : he ≤ sp) (hO : ¬ tkO b n p = true) (h1 : bk = 1) (h2 : ba = nI (tkS b n p)) : Md b n (0, p) bk ba sp he to va :=
  ⟨hs, hh, fun _ => hp, fun _ q => absurd q hO, fun _ _ => ⟨h1, h2⟩, fun q => absurd rfl q⟩
theorem Md.bad {c : Int32} {pl : Nat} (hs : sp ≤ n) (hh : he ≤ sp) (h1 : bk = c) (h2 : ba = nI pl) (hc : 0 < c) : Md b n (c, pl) bk ba sp he to va :=
  have hz : ¬ c = 0 := fun e => by rw [e] at hc; exact absurd hc (by decide)
  ⟨hs, hh, fun q => absurd q hz, fun q => absurd q hz, fun q => absurd q hz, fun _ => ⟨h1, h2, hc⟩⟩
theorem Md.pos {r : Int32 × Nat} (h : Md b n r bk ba sp he to va) : bk = 0 ∨ 0 < bk := by
  by_cases h1 : r.1 = 0
  · by_cases h2 : tkO b n r.2 = true
    · exact Or.inl (h.2.2.2.1 h1 h2).1
    · rw [(h.2.2.2.2.1 h1 h2).1]; exact Or.inr (by decide)
  · have := h.2.2.2.2.2 h1
    rw [this.1]; exact Or.inr this.2.2
theorem Md.zero {r : Int32 × Nat} (h : Md b n r bk ba sp he to va) (hb : bk = 0) : r.1 = 0 ∧ tkO b n r.2 = true := by
  by_cases h1 : r.1 = 0
  · by_cases h2 : tkO b n r.2 = true
    · exact ⟨h1, h2⟩
    · have := (h.2.2.2.2.1 h1 h2).1; rw [hb] at this; exact absurd this (by decide)
  · have := h.2.2.2.2.2 h1
    rw [← this.1, hb] at this; exact absurd this.2.2 (by decide)
end MD
def nmL : List Nat := [0, 1, 3, 4, 5, 6, 7, 2]
def nmGo (q : Nat → Bool) : Nat → Nat → Int32
  | 0, _ => -4
  | k + 1, n => if q n = true then nI n else nmGo q k (n + 1)
def nmI (tk : Int32) (b : Nat → Int32) (sa nx : Nat) : Int32 := nmGo (fun n => nmB tk b sa nx (nmL.getD n 0)) 8 0
def cutT : List Nat := [0, 6, 10, 15, 19, 23, 27, 32, 35]
def letT : List Int32 := [115, 116, 114, 101, 101, 116, 114, 117, 108, 101, 119, 111, 114, 116, 104, 100, 101, 98, 116, 104, 111, 109, 101, 115, 116, 111, 112, 116, 111, 100, 97, 121, 110, 111, 116]
theorem cut_len : ∀ n, n < 8 → nI (cutT.getD (n + 1) 0) - nI (cutT.getD n 0) = nI (lenS.getD (nmL.getD n 0) 0) ∧ lenS.getD (nmL.getD n 0) 0 ≤ 6 ∧ cutT.getD n 0 + lenS.getD (nmL.getD n 0) 0 ≤ 35 := by decide +kernel
theorem let_let : ∀ n, n < 8 → ∀ k, k < 6 → k < lenS.getD (nmL.getD n 0) 0 → letT.getD (cutT.getD n 0 + k) 0 = (bytS.getD (nmL.getD n 0) []).getD k 0 := by decide +kernel
theorem nI_inj {a b : Nat} (ha : a < 2 ^ 31) (hb : b < 2 ^ 31) : nI a = nI b ↔ a = b := by
  constructor
  · intro h
    have := congrArg Int32.toNatClampNeg h
    rwa [nI_clamp ha, nI_clamp hb] at this
  · rintro rfl; rfl
theorem itP {x : Int32} {P : Prop} [Decidable P] (h : x = if P then (1 : Int32) else 0) (c : ¬ x = 0) : P := by
  apply Decidable.byContradiction
  intro q
  rw [if_neg q] at h
  exact c h
theorem itN {x : Int32} {P : Prop} [Decidable P] (h : x = if P then (1 : Int32) else 0) (c : x = 0) : ¬ P := by
  intro q
  rw [if_pos q, c] at h
  exact absurd h (by decide)
theorem eqB_mono {b : Nat → Int32} {sa i k : Nat} (h : ¬ eqB b sa i k = true) : ∀ m, k ≤ m → ¬ eqB b sa i m = true := by
  intro m
  induction m with
  | zero => intro hk; obtain rfl : k = 0 := by omega
            exact h
  | succ m ih =>
    intro hk
    by_cases e : k = m + 1
    · rw [← e]; exact h
    · have := ih (by omega)
      simp only [eqB, Bool.and_eq_true]
      exact fun q => this q.1
theorem nm_no {tk : Int32} {b : Nat → Int32} {he sq i k : Nat} (h : ¬ (sq - he = lenS.getD i 0 ∧ eqB b he i k = true)) (hk : k ≤ sq - he) : ¬ nmB tk b he sq i = true := by
  intro q
  unfold nmB at q
  rw [Bool.and_eq_true, decide_eq_true_eq] at q
  refine h ⟨q.1.2, Decidable.byContradiction (fun z => ?_)⟩
  exact eqB_mono z _ (by omega) q.2
theorem nm_yes {tk : Int32} {b : Nat → Int32} {he sq i k : Nat} (ht : tk = 1) (h : sq - he = lenS.getD i 0 ∧ eqB b he i k = true) (hk : ¬ k < sq - he) (hk2 : k ≤ sq - he) : nmB tk b he sq i = true := by
  unfold nmB
  rw [Bool.and_eq_true, decide_eq_true_eq]
  refine ⟨⟨ht, h.1⟩, ?_⟩
  rw [show lenS.getD i 0 = k by omega]
  exact h.2
theorem nm_tok {tk : Int32} {b : Nat → Int32} {he sq i : Nat} (ht : ¬ tk = 1) : nmB tk b he sq i = false := by
  unfold nmB
  rw [decide_eq_false (fun q => ht q.1)]; rfl
theorem nmGo_no {q : Nat → Bool} (h : ∀ j, q j = false) : ∀ k n, nmGo q k n = -4 := by
  intro k
  induction k with
  | zero => intro n; rfl
  | succ k ih => intro n; rw [nmGo, h n]; exact ih _
theorem c_X5_byteAt (l : Launch) (E : VE) (m0 : Nat) (ma : Nat) (mp : Nat) (mt : Nat) (mc : Nat) (ml : Nat) (mn : Nat) (mk : Nat) (mg : Nat) (mh : Nat) (mq : Nat) (nt : Nat) (pp : Nat) (tl : Nat) (se : Nat) (th : Int32) (rn : Int32) (ro : Int32) (to : Int32) (wt : Int32) (hn : Int32) (ho : Int32) (fa : Int32) (bk : Int32) (ba : Int32) (spt : Int32) (hre : Int32) (tok : Int32) (val : Int32) (tn : Int32) (by_ : Nat → Int32) (k : Nat) (h_tl : tl ≤ 160) (h_k : k ≤ 160) : Ct l E yX5_byteAt cX5_byteAt 2 (Option.some FieldType.int) 0 0 0 0 [.ref m0, .int (nI k)] [(m0, .inr (5, [.ref ma, .int (nI nt), .int (nI pp), .int (th), .ref mp, .int (rn), .int (ro), .int (to), .int (wt), .int (hn), .int (ho), .ref mt, .int (nI tl), .int (fa), .int (bk), .int (ba), .int (spt), .int (hre), .int (tok), .int (val), .ref mc, .ref ml, .ref mn, .int (nI se), .ref mk, .ref mg, .ref mh, .ref mq, .int (tn)])), (mt, .inl (E.2.1 1, 160, .inl (by_)))] (Rt (some (.int (bA by_ tl k))) [(m0, .inr (5, [.ref ma, .int (nI nt), .int (nI pp), .int (th), .ref mp, .int (rn), .int (ro), .int (to), .int (wt), .int (hn), .int (ho), .ref mt, .int (nI tl), .int (fa), .int (bk), .int (ba), .int (spt), .int (hre), .int (tok), .int (val), .ref mc, .ref ml, .ref mn, .int (nI se), .ref mk, .ref mg, .ref mh, .ref mq, .int (tn)])), (mt, .inl (E.2.1 1, 160, .inl (by_)))]) := by
  refine Ct.of (own := RX5) (nm := "byteAt") (lv := [(0, .ref m0), (1, .int (nI k))]) (by decide) rfl rfl (Nat.le_of_ble_eq_true rfl) rfl ?_
  refine v_iload_n (pc := 0) 1 dX5_byteAt_0 rfl rfl ?_
  refine v_aload_n (pc := 1) 0 dX5_byteAt_1 rfl rfl ?_
  refine gf_799 (pc := 2) 0 dX5_byteAt_2 rfl rfl ?_
  refine v_cmpN_ge (pc := 5) (a := k) (b := tl) 17 dX5_byteAt_5 (by decide) (by omega) (by omega) (fun c_5 => ?_) (fun c_5 => ?_)
  · skip
    refine v_bipush (pc := 17) (v := -4) dX5_byteAt_17 (by decide) ?_
    refine v_iret (pc := 19) dX5_byteAt_19 rfl ⟨rfl, rfl⟩ (Rt.i ?_)
    unfold bA; rw [if_neg (by omega)]
  · skip
    refine v_aload_n (pc := 8) 0 dX5_byteAt_8 rfl rfl ?_
    refine gf_798 (pc := 9) 0 dX5_byteAt_9 rfl rfl ?_
    refine v_iload_n (pc := 12) 1 dX5_byteAt_12 rfl rfl ?_
    refine v_ialdN (pc := 13) 1 1 (k) dX5_byteAt_13 rfl rfl rfl (by omega) (by decide) ?_
    refine v_goto (pc := 14) 19 dX5_byteAt_14 (by decide) ?_
    refine v_iret (pc := 19) dX5_byteAt_19 rfl ⟨rfl, rfl⟩ (Rt.i ?_)
    unfold bA; rw [if_pos (by omega)]
theorem c_X5_fails (l : Launch) (E : VE) (m0 : Nat) (ma : Nat) (mp : Nat) (mt : Nat) (mc : Nat) (ml : Nat) (mn : Nat) (mk : Nat) (mg : Nat) (mh : Nat) (mq : Nat) (nt : Nat) (pp : Nat) (tl : Nat) (se : Nat) (th : Int32) (rn : Int32) (ro : Int32) (to : Int32) (wt : Int32) (hn : Int32) (ho : Int32) (fa : Int32) (bk : Int32) (ba : Int32) (spt : Int32) (hre : Int32) (tok : Int32) (val : Int32) (tn : Int32) (c : Int32) : Ct l E yX5_fails cX5_fails 2 (Option.none : Option Jvm.ClassFile.FieldType) 0 0 0 0 [.ref m0, .int (c)] [(m0, .inr (5, [.ref ma, .int (nI nt), .int (nI pp), .int (th), .ref mp, .int (rn), .int (ro), .int (to), .int (wt), .int (hn), .int (ho), .ref mt, .int (nI tl), .int (fa), .int (bk), .int (ba), .int (spt), .int (hre), .int (tok), .int (val), .ref mc, .ref ml, .ref mn, .int (nI se), .ref mk, .ref mg, .ref mh, .ref mq, .int (tn)]))] (Rt none [(m0, .inr (5, [.ref ma, .int (nI nt), .int (nI pp), .int (th), .ref mp, .int (rn), .int (ro), .int (to), .int (wt), .int (hn), .int (ho), .ref mt, .int (nI tl), .int (fa), .int (if bk = 0 then c else bk), .int (if bk = 0 then hre else ba), .int (spt), .int (hre), .int (tok), .int (val), .ref mc, .ref ml, .ref mn, .int (nI se), .ref mk, .ref mg, .ref mh, .ref mq, .int (tn)]))]) := by
  refine Ct.of (own := RX5) (nm := "fails") (lv := [(0, .ref m0), (1, .int (c))]) (by decide) rfl rfl (Nat.le_of_ble_eq_true rfl) rfl ?_
  refine v_aload_n (pc := 0) 0 dX5_fails_0 rfl rfl ?_
  refine gf_801 (pc := 1) 0 dX5_fails_1 rfl rfl ?_
  refine v_if_ne (pc := 4) 20 dX5_fails_4 (by decide) (fun c_4 => ?_) (fun c_4 => ?_)
  · skip
    refine v_vret (pc := 20) dX5_fails_20 rfl ⟨rfl, rfl⟩ (Rt.w ?_)
    rw [if_neg c_4, if_neg c_4]
  · skip
    refine v_aload_n (pc := 7) 0 dX5_fails_7 rfl rfl ?_
    refine v_iload_n (pc := 8) 1 dX5_fails_8 rfl rfl ?_
    refine pf_801 (pc := 9) (ws' := [(m0, .inr (5, [.ref ma, .int (nI nt), .int (nI pp), .int (th), .ref mp, .int (rn), .int (ro), .int (to), .int (wt), .int (hn), .int (ho), .ref mt, .int (nI tl), .int (fa), .int (c), .int (ba), .int (spt), .int (hre), .int (tok), .int (val), .ref mc, .ref ml, .ref mn, .int (nI se), .ref mk, .ref mg, .ref mh, .ref mq, .int (tn)]))]) 0 dX5_fails_9 rfl rfl rfl (Nat.le_of_ble_eq_true rfl) rfl ?_
    refine v_aload_n (pc := 12) 0 dX5_fails_12 rfl rfl ?_
    refine v_aload_n (pc := 13) 0 dX5_fails_13 rfl rfl ?_
    refine gf_804 (pc := 14) 0 dX5_fails_14 rfl rfl ?_
    refine pf_802 (pc := 17) (ws' := [(m0, .inr (5, [.ref ma, .int (nI nt), .int (nI pp), .int (th), .ref mp, .int (rn), .int (ro), .int (to), .int (wt), .int (hn), .int (ho), .ref mt, .int (nI tl), .int (fa), .int (c), .int (hre), .int (spt), .int (hre), .int (tok), .int (val), .ref mc, .ref ml, .ref mn, .int (nI se), .ref mk, .ref mg, .ref mh, .ref mq, .int (tn)]))]) 0 dX5_fails_17 rfl rfl rfl (Nat.le_of_ble_eq_true rfl) rfl ?_
    refine v_vret (pc := 20) dX5_fails_20 rfl ⟨rfl, rfl⟩ (Rt.w ?_)
    rw [if_pos c_4, if_pos c_4]
theorem c_X5_nameHere (l : Launch) (E : VE) (m0 : Nat) (ma : Nat) (mp : Nat) (mt : Nat) (mc : Nat) (ml : Nat) (mn : Nat) (mk : Nat) (mg : Nat) (mh : Nat) (mq : Nat) (nt : Nat) (pp : Nat) (tl : Nat) (se : Nat) (th : Int32) (rn : Int32) (ro : Int32) (to : Int32) (wt : Int32) (hn : Int32) (ho : Int32) (fa : Int32) (bk : Int32) (ba : Int32) (tok : Int32) (val : Int32) (tn : Int32) (sq : Nat) (he : Nat) (by_ : Nat → Int32) (cf : Nat → Int32) (lf : Nat → Int32) (h_tl : tl ≤ 160) (h_sq : sq ≤ tl) (h_he : he ≤ sq) (h_cf : ∀ k, k < 9 → cf k = nI (cutT.getD k 0)) (h_lf : ∀ k, k < 35 → lf k = letT.getD k 0) : Ct l E yX5_nameHere cX5_nameHere 4 (Option.some FieldType.int) 1 21 0 0 [.ref m0] [(m0, .inr (5, [.ref ma, .int (nI nt), .int (nI pp), .int (th), .ref mp, .int (rn), .int (ro), .int (to), .int (wt), .int (hn), .int (ho), .ref mt, .int (nI tl), .int (fa), .int (bk), .int (ba), .int (nI sq), .int (nI he), .int (tok), .int (val), .ref mc, .ref ml, .ref mn, .int (nI se), .ref mk, .ref mg, .ref mh, .ref mq, .int (tn)])), (mt, .inl (E.2.1 1, 160, .inl (by_))), (mc, .inl (E.2.1 1, 9, .inl (cf))), (ml, .inl (E.2.1 1, 35, .inl (lf)))] (Rt (some (.int (nmI tok by_ he sq))) [(m0, .inr (5, [.ref ma, .int (nI nt), .int (nI pp), .int (th), .ref mp, .int (rn), .int (ro), .int (to), .int (wt), .int (hn), .int (ho), .ref mt, .int (nI tl), .int (fa), .int (bk), .int (ba), .int (nI sq), .int (nI he), .int (tok), .int (val), .ref mc, .ref ml, .ref mn, .int (nI se), .ref mk, .ref mg, .ref mh, .ref mq, .int (tn)])), (mt, .inl (E.2.1 1, 160, .inl (by_))), (mc, .inl (E.2.1 1, 9, .inl (cf))), (ml, .inl (E.2.1 1, 35, .inl (lf)))]) := by
  refine Ct.of (own := RX5) (nm := "nameHere") (lv := [(0, .ref m0)]) (by decide) rfl rfl (Nat.le_of_ble_eq_true rfl) rfl ?_
  refine v_iconst (pc := 0) (v := 0) dX5_nameHere_0 (by decide) ?_
  refine v_istore_n (pc := 1) (lv' := [(1, .int (0)), (0, .ref m0)]) dX5_nameHere_1 rfl (by decide) rfl ?_
  have loop_2 : ∀ (D_2 : Nat) (n : Nat), 8 - n < D_2 → (nmI tok by_ he sq = nmGo (fun n => nmB tok by_ he sq (nmL.getD n 0)) (8 - n) n) → (n ≤ 8) → V l E RX5 cX5_nameHere 4 (Option.some FieldType.int) "nameHere" ({ frames := 1, cells := 0, slots := 0, locals := 21 }) [(m0, .inr (5, [.ref ma, .int (nI nt), .int (nI pp), .int (th), .ref mp, .int (rn), .int (ro), .int (to), .int (wt), .int (hn), .int (ho), .ref mt, .int (nI tl), .int (fa), .int (bk), .int (ba), .int (nI sq), .int (nI he), .int (tok), .int (val), .ref mc, .ref ml, .ref mn, .int (nI se), .ref mk, .ref mg, .ref mh, .ref mq, .int (tn)])), (mt, .inl (E.2.1 1, 160, .inl (by_))), (mc, .inl (E.2.1 1, 9, .inl (cf))), (ml, .inl (E.2.1 1, 35, .inl (lf)))] 0 0 (Rt (some (.int (nmI tok by_ he sq))) [(m0, .inr (5, [.ref ma, .int (nI nt), .int (nI pp), .int (th), .ref mp, .int (rn), .int (ro), .int (to), .int (wt), .int (hn), .int (ho), .ref mt, .int (nI tl), .int (fa), .int (bk), .int (ba), .int (nI sq), .int (nI he), .int (tok), .int (val), .ref mc, .ref ml, .ref mn, .int (nI se), .ref mk, .ref mg, .ref mh, .ref mq, .int (tn)])), (mt, .inl (E.2.1 1, 160, .inl (by_))), (mc, .inl (E.2.1 1, 9, .inl (cf))), (ml, .inl (E.2.1 1, 35, .inl (lf)))]) 0 0 2 [(1, .int (nI n)), (0, .ref m0)] [] [(m0, .inr (5, [.ref ma, .int (nI nt), .int (nI pp), .int (th), .ref mp, .int (rn), .int (ro), .int (to), .int (wt), .int (hn), .int (ho), .ref mt, .int (nI tl), .int (fa), .int (bk), .int (ba), .int (nI sq), .int (nI he), .int (tok), .int (val), .ref mc, .ref ml, .ref mn, .int (nI se), .ref mk, .ref mg, .ref mh, .ref mq, .int (tn)])), (mt, .inl (E.2.1 1, 160, .inl (by_))), (mc, .inl (E.2.1 1, 9, .inl (cf))), (ml, .inl (E.2.1 1, 35, .inl (lf)))] := by
    intro D_2
    induction D_2 with
    | zero => intro n h; exact absurd h (Nat.not_lt_zero _)
    | succ D_2 ih_2 =>
      intro n hmu_2 h_2_0 h_2_1
      refine v_iload_n (pc := 2) 0 dX5_nameHere_2 rfl rfl ?_
      refine v_bipush (pc := 3) (v := 8) dX5_nameHere_3 (by decide) ?_
      refine v_cmpN_ge (pc := 5) (a := n) (b := 8) 118 dX5_nameHere_5 (by decide) (by omega) (by omega) (fun c_5 => ?_) (fun c_5 => ?_)
      · skip
        refine v_bipush (pc := 118) (v := -4) dX5_nameHere_118 (by decide) ?_
        refine v_iret (pc := 120) dX5_nameHere_120 rfl ⟨rfl, rfl⟩ (Rt.i ?_)
        rw [h_2_0, show 8 - n = 0 by omega]; rfl
      · skip
        have hcl := cut_len n (by omega)
        refine v_aload_n (pc := 8) 1 dX5_nameHere_8 rfl rfl ?_
        refine gf_805 (pc := 9) 0 dX5_nameHere_9 rfl rfl ?_
        refine v_iconst (pc := 12) (v := 1) dX5_nameHere_12 (by decide) ?_
        refine v_icmp_ne (pc := 13) 118 dX5_nameHere_13 (by decide) (fun c_13 => ?_) (fun c_13 => ?_)
        · skip
          refine v_bipush (pc := 118) (v := -4) dX5_nameHere_118 (by decide) ?_
          refine v_iret (pc := 120) dX5_nameHere_120 rfl ⟨rfl, rfl⟩ (Rt.i ?_)
          rw [h_2_0, nmGo_no (fun j => nm_tok c_13)]
        · skip
          refine v_aload_n (pc := 16) 1 dX5_nameHere_16 rfl rfl ?_
          refine gf_803 (pc := 17) 0 dX5_nameHere_17 rfl rfl ?_
          refine v_aload_n (pc := 20) 1 dX5_nameHere_20 rfl rfl ?_
          refine gf_804 (pc := 21) 0 dX5_nameHere_21 rfl rfl ?_
          refine v_isub (pc := 24) dX5_nameHere_24 ?_
          refine v_st (st' := [.int (nI (sq - he))]) (by rw [pk_sub h_he]) ?_
          refine v_aload_n (pc := 25) 1 dX5_nameHere_25 rfl rfl ?_
          refine gf_807 (pc := 26) 0 dX5_nameHere_26 rfl rfl ?_
          refine v_iload_n (pc := 29) 0 dX5_nameHere_29 rfl rfl ?_
          refine v_iconst (pc := 30) (v := 1) dX5_nameHere_30 (by decide) ?_
          refine v_iadd (pc := 31) dX5_nameHere_31 ?_
          refine v_st (st' := [.int (nI (n + 1)), .ref mc, .int (nI (sq - he))]) (congrArg (fun z => Value.int z :: _) (nI_add n 1)) ?_
          refine v_ialdN (pc := 32) 2 1 (n + 1) dX5_nameHere_32 rfl rfl rfl (by omega) (by decide) ?_
          refine v_aload_n (pc := 33) 1 dX5_nameHere_33 rfl rfl ?_
          refine gf_807 (pc := 34) 0 dX5_nameHere_34 rfl rfl ?_
          refine v_iload_n (pc := 37) 0 dX5_nameHere_37 rfl rfl ?_
          refine v_ialdN (pc := 38) 2 1 (n) dX5_nameHere_38 rfl rfl rfl (by omega) (by decide) ?_
          refine v_isub (pc := 39) dX5_nameHere_39 ?_
          refine v_st (st' := [.int (nI (lenS.getD (nmL.getD n 0) 0)), .int (nI (sq - he))]) (by rw [h_cf (n + 1) (by omega), h_cf n (by omega), hcl.1]) ?_
          suffices J_40 : V l E RX5 cX5_nameHere 4 (Option.some FieldType.int) "nameHere" ({ frames := 1, cells := 0, slots := 0, locals := 21 }) [(m0, .inr (5, [.ref ma, .int (nI nt), .int (nI pp), .int (th), .ref mp, .int (rn), .int (ro), .int (to), .int (wt), .int (hn), .int (ho), .ref mt, .int (nI tl), .int (fa), .int (bk), .int (ba), .int (nI sq), .int (nI he), .int (tok), .int (val), .ref mc, .ref ml, .ref mn, .int (nI se), .ref mk, .ref mg, .ref mh, .ref mq, .int (tn)])), (mt, .inl (E.2.1 1, 160, .inl (by_))), (mc, .inl (E.2.1 1, 9, .inl (cf))), (ml, .inl (E.2.1 1, 35, .inl (lf)))] 0 0 (Rt (some (.int (nmI tok by_ he sq))) [(m0, .inr (5, [.ref ma, .int (nI nt), .int (nI pp), .int (th), .ref mp, .int (rn), .int (ro), .int (to), .int (wt), .int (hn), .int (ho), .ref mt, .int (nI tl), .int (fa), .int (bk), .int (ba), .int (nI sq), .int (nI he), .int (tok), .int (val), .ref mc, .ref ml, .ref mn, .int (nI se), .ref mk, .ref mg, .ref mh, .ref mq, .int (tn)])), (mt, .inl (E.2.1 1, 160, .inl (by_))), (mc, .inl (E.2.1 1, 9, .inl (cf))), (ml, .inl (E.2.1 1, 35, .inl (lf)))]) 0 0 48 [(1, .int (nI n)), (0, .ref m0)] [.int (if (sq - he) = (lenS.getD (nmL.getD n 0) 0) then 1 else 0)] [(m0, .inr (5, [.ref ma, .int (nI nt), .int (nI pp), .int (th), .ref mp, .int (rn), .int (ro), .int (to), .int (wt), .int (hn), .int (ho), .ref mt, .int (nI tl), .int (fa), .int (bk), .int (ba), .int (nI sq), .int (nI he), .int (tok), .int (val), .ref mc, .ref ml, .ref mn, .int (nI se), .ref mk, .ref mg, .ref mh, .ref mq, .int (tn)])), (mt, .inl (E.2.1 1, 160, .inl (by_))), (mc, .inl (E.2.1 1, 9, .inl (cf))), (ml, .inl (E.2.1 1, 35, .inl (lf)))] by
            refine v_cmpN_ne (pc := 40) (a := sq - he) (b := lenS.getD (nmL.getD n 0) 0) 47 dX5_nameHere_40 (by decide) (by omega) (by omega) (fun c_40 => ?_) (fun c_40 => ?_)
            · skip
              refine v_iconst (pc := 47) (v := 0) dX5_nameHere_47 (by decide) ?_
              refine v_st ?_ J_40
              rw [if_neg (show ¬ ((sq - he) = (lenS.getD (nmL.getD n 0) 0)) from c_40)]
            · skip
              refine v_iconst (pc := 43) (v := 1) dX5_nameHere_43 (by decide) ?_
              refine v_goto (pc := 44) 48 dX5_nameHere_44 (by decide) ?_
              refine v_st ?_ J_40
              rw [if_pos (show (sq - he) = (lenS.getD (nmL.getD n 0) 0) from c_40)]
          refine v_istore_n (pc := 48) (lv' := [(2, .int (if (sq - he) = (lenS.getD (nmL.getD n 0) 0) then 1 else 0)), (1, .int (nI n)), (0, .ref m0)]) dX5_nameHere_48 rfl (by decide) rfl ?_
          refine v_iconst (pc := 49) (v := 0) dX5_nameHere_49 (by decide) ?_
          refine v_istore_n (pc := 50) (lv' := [(3, .int (0)), (2, .int (if (sq - he) = (lenS.getD (nmL.getD n 0) 0) then 1 else 0)), (1, .int (nI n)), (0, .ref m0)]) dX5_nameHere_50 rfl (by decide) rfl ?_
          have loop_51 : ∀ (D_51 : Nat) (sm : Int32) (k : Nat), sq - he - k < D_51 → (sm = (if sq - he = lenS.getD (nmL.getD n 0) 0 ∧ eqB by_ he (nmL.getD n 0) k = true then (1 : Int32) else 0)) → (k ≤ sq - he) → V l E RX5 cX5_nameHere 4 (Option.some FieldType.int) "nameHere" ({ frames := 1, cells := 0, slots := 0, locals := 21 }) [(m0, .inr (5, [.ref ma, .int (nI nt), .int (nI pp), .int (th), .ref mp, .int (rn), .int (ro), .int (to), .int (wt), .int (hn), .int (ho), .ref mt, .int (nI tl), .int (fa), .int (bk), .int (ba), .int (nI sq), .int (nI he), .int (tok), .int (val), .ref mc, .ref ml, .ref mn, .int (nI se), .ref mk, .ref mg, .ref mh, .ref mq, .int (tn)])), (mt, .inl (E.2.1 1, 160, .inl (by_))), (mc, .inl (E.2.1 1, 9, .inl (cf))), (ml, .inl (E.2.1 1, 35, .inl (lf)))] 0 0 (Rt (some (.int (nmI tok by_ he sq))) [(m0, .inr (5, [.ref ma, .int (nI nt), .int (nI pp), .int (th), .ref mp, .int (rn), .int (ro), .int (to), .int (wt), .int (hn), .int (ho), .ref mt, .int (nI tl), .int (fa), .int (bk), .int (ba), .int (nI sq), .int (nI he), .int (tok), .int (val), .ref mc, .ref ml, .ref mn, .int (nI se), .ref mk, .ref mg, .ref mh, .ref mq, .int (tn)])), (mt, .inl (E.2.1 1, 160, .inl (by_))), (mc, .inl (E.2.1 1, 9, .inl (cf))), (ml, .inl (E.2.1 1, 35, .inl (lf)))]) 0 0 51 [(2, .int (sm)), (3, .int (nI k)), (1, .int (nI n)), (0, .ref m0)] [] [(m0, .inr (5, [.ref ma, .int (nI nt), .int (nI pp), .int (th), .ref mp, .int (rn), .int (ro), .int (to), .int (wt), .int (hn), .int (ho), .ref mt, .int (nI tl), .int (fa), .int (bk), .int (ba), .int (nI sq), .int (nI he), .int (tok), .int (val), .ref mc, .ref ml, .ref mn, .int (nI se), .ref mk, .ref mg, .ref mh, .ref mq, .int (tn)])), (mt, .inl (E.2.1 1, 160, .inl (by_))), (mc, .inl (E.2.1 1, 9, .inl (cf))), (ml, .inl (E.2.1 1, 35, .inl (lf)))] := by
            intro D_51
            induction D_51 with
            | zero => intro sm k h; exact absurd h (Nat.not_lt_zero _)
            | succ D_51 ih_51 =>
              intro sm k hmu_51 h_51_0 h_51_1
              refine v_iload_n (pc := 51) 0 dX5_nameHere_51 rfl rfl ?_
              refine v_if_eq (pc := 52) 106 dX5_nameHere_52 (by decide) (fun c_52 => ?_) (fun c_52 => ?_)
              · skip
                refine v_iload_n (pc := 106) 0 dX5_nameHere_106 rfl rfl ?_
                refine v_if_eq (pc := 107) 112 dX5_nameHere_107 (by decide) (fun c_107 => ?_) (fun c_107 => ?_)
                · skip
                  refine v_iinc (pc := 112) (v := nI (n + 1)) (lv' := [(1, .int (nI (n + 1))), (2, .int (sm)), (3, .int (nI k)), (0, .ref m0)]) 2 dX5_nameHere_112 rfl (nI_inc (n) 1) (by decide) rfl ?_
                  refine v_goto (pc := 115) 2 dX5_nameHere_115 (by decide) ?_
                  refine v_lv (lv' := [(1, .int (nI (n + 1))), (0, .ref m0)]) [0, 3] rfl ?_
                  refine ih_2 (n + 1) (by omega) ?_ ?_
                  · have hno := nm_no (tk := tok) (itN h_51_0 c_107) h_51_1
                    rw [h_2_0, show 8 - n = (8 - (n + 1)) + 1 by omega, nmGo, if_neg hno]
                  · omega
                · skip
                  refine v_iload_n (pc := 110) 2 dX5_nameHere_110 rfl rfl ?_
                  refine v_iret (pc := 111) dX5_nameHere_111 rfl ⟨rfl, rfl⟩ (Rt.i ?_)
                  exact absurd c_52 c_107
              · skip
                refine v_iload_n (pc := 55) 1 dX5_nameHere_55 rfl rfl ?_
                refine v_aload_n (pc := 56) 3 dX5_nameHere_56 rfl rfl ?_
                refine gf_803 (pc := 57) 0 dX5_nameHere_57 rfl rfl ?_
                refine v_aload_n (pc := 60) 3 dX5_nameHere_60 rfl rfl ?_
                refine gf_804 (pc := 61) 0 dX5_nameHere_61 rfl rfl ?_
                refine v_isub (pc := 64) dX5_nameHere_64 ?_
                refine v_st (st' := [.int (nI (sq - he)), .int (nI k)]) (by rw [pk_sub h_he]) ?_
                refine v_cmpN_ge (pc := 65) (a := k) (b := sq - he) 106 dX5_nameHere_65 (by decide) (by omega) (by omega) (fun c_65 => ?_) (fun c_65 => ?_)
                · skip
                  refine v_iload_n (pc := 106) 0 dX5_nameHere_106 rfl rfl ?_
                  refine v_if_eq (pc := 107) 112 dX5_nameHere_107 (by decide) (fun c_107 => ?_) (fun c_107 => ?_)
                  · skip
                    refine v_iinc (pc := 112) (v := nI (n + 1)) (lv' := [(1, .int (nI (n + 1))), (2, .int (sm)), (3, .int (nI k)), (0, .ref m0)]) 2 dX5_nameHere_112 rfl (nI_inc (n) 1) (by decide) rfl ?_
                    refine v_goto (pc := 115) 2 dX5_nameHere_115 (by decide) ?_
                    refine v_lv (lv' := [(1, .int (nI (n + 1))), (0, .ref m0)]) [0, 3] rfl ?_
                    refine ih_2 (n + 1) (by omega) ?_ ?_
                    · have hno := nm_no (tk := tok) (itN h_51_0 c_107) h_51_1
                      rw [h_2_0, show 8 - n = (8 - (n + 1)) + 1 by omega, nmGo, if_neg hno]
                    · omega
                  · skip
                    refine v_iload_n (pc := 110) 2 dX5_nameHere_110 rfl rfl ?_
                    refine v_iret (pc := 111) dX5_nameHere_111 rfl ⟨rfl, rfl⟩ (Rt.i ?_)
                    have hyes := nm_yes (tk := tok) c_13 (itP h_51_0 c_107) (by omega) h_51_1
                    rw [h_2_0, show 8 - n = (7 - n) + 1 by omega, nmGo, if_pos hyes]
                · skip
                  have hsm := itP h_51_0 c_52
                  refine v_aload_n (pc := 68) 3 dX5_nameHere_68 rfl rfl ?_
                  refine v_aload_n (pc := 69) 3 dX5_nameHere_69 rfl rfl ?_
                  refine gf_804 (pc := 70) 0 dX5_nameHere_70 rfl rfl ?_
                  refine v_iload_n (pc := 73) 1 dX5_nameHere_73 rfl rfl ?_
                  refine v_iadd (pc := 74) dX5_nameHere_74 ?_
                  refine v_st (st' := [.int (nI (he + k)), .ref m0]) (congrArg (fun z => Value.int z :: _) (nI_add he k)) ?_
                  refine v_callV (pc := 75) (rest := []) [0, 1] 0 lk_895 (c_X5_byteAt l E m0 ma mp mt mc ml mn mk mg mh mq nt pp tl se th rn ro to wt hn ho fa bk ba (nI sq) (nI he) tok val tn by_ (he + k) h_tl (by omega)) dX5_nameHere_75 rfl rfl (Nat.le_of_ble_eq_true rfl) (by decide) rfl rfl rfl (by decide) rfl (Rt.len rfl) (Rt.go ?_)
                  refine v_w (ws' := [(m0, .inr (5, [.ref ma, .int (nI nt), .int (nI pp), .int (th), .ref mp, .int (rn), .int (ro), .int (to), .int (wt), .int (hn), .int (ho), .ref mt, .int (nI tl), .int (fa), .int (bk), .int (ba), .int ((nI sq)), .int ((nI he)), .int (tok), .int (val), .ref mc, .ref ml, .ref mn, .int (nI se), .ref mk, .ref mg, .ref mh, .ref mq, .int (tn)])), (mt, .inl (E.2.1 1, 160, .inl (by_))), (mc, .inl (E.2.1 1, 9, .inl (cf))), (ml, .inl (E.2.1 1, 35, .inl (lf)))]) rfl ?_
                  refine v_st (st' := [.int (bA by_ tl (he + k))]) rfl ?_
                  refine v_st (st' := [.int (by_ (he + k))]) (by rw [bA_in (by omega)]) ?_
                  refine v_aload_n (pc := 78) 3 dX5_nameHere_78 rfl rfl ?_
                  refine gf_808 (pc := 79) 0 dX5_nameHere_79 rfl rfl ?_
                  refine v_aload_n (pc := 82) 3 dX5_nameHere_82 rfl rfl ?_
                  refine gf_807 (pc := 83) 0 dX5_nameHere_83 rfl rfl ?_
                  refine v_iload_n (pc := 86) 2 dX5_nameHere_86 rfl rfl ?_
                  refine v_ialdN (pc := 87) 2 1 (n) dX5_nameHere_87 rfl rfl rfl (by omega) (by decide) ?_
                  refine v_st (st' := [.int (nI (cutT.getD n 0)), .ref ml, .int (by_ (he + k))]) (by rw [h_cf n (by omega)]) ?_
                  refine v_iload_n (pc := 88) 1 dX5_nameHere_88 rfl rfl ?_
                  refine v_iadd (pc := 89) dX5_nameHere_89 ?_
                  refine v_st (st' := [.int (nI ((cutT.getD n 0) + k)), .ref ml, .int (by_ (he + k))]) (congrArg (fun z => Value.int z :: _) (nI_add (cutT.getD n 0) k)) ?_
                  refine v_ialdN (pc := 90) 3 1 ((cutT.getD n 0) + k) dX5_nameHere_90 rfl rfl rfl (by omega) (by decide) ?_
                  refine v_st (st' := [.int ((bytS.getD (nmL.getD n 0) []).getD k 0), .int (by_ (he + k))]) (by rw [h_lf _ (by omega), let_let n (by omega) k (by omega) (by omega)]) ?_
                  suffices J_91 : V l E RX5 cX5_nameHere 4 (Option.some FieldType.int) "nameHere" ({ frames := 1, cells := 0, slots := 0, locals := 21 }) [(m0, .inr (5, [.ref ma, .int (nI nt), .int (nI pp), .int (th), .ref mp, .int (rn), .int (ro), .int (to), .int (wt), .int (hn), .int (ho), .ref mt, .int (nI tl), .int (fa), .int (bk), .int (ba), .int (nI sq), .int (nI he), .int (tok), .int (val), .ref mc, .ref ml, .ref mn, .int (nI se), .ref mk, .ref mg, .ref mh, .ref mq, .int (tn)])), (mt, .inl (E.2.1 1, 160, .inl (by_))), (mc, .inl (E.2.1 1, 9, .inl (cf))), (ml, .inl (E.2.1 1, 35, .inl (lf)))] 0 0 (Rt (some (.int (nmI tok by_ he sq))) [(m0, .inr (5, [.ref ma, .int (nI nt), .int (nI pp), .int (th), .ref mp, .int (rn), .int (ro), .int (to), .int (wt), .int (hn), .int (ho), .ref mt, .int (nI tl), .int (fa), .int (bk), .int (ba), .int (nI sq), .int (nI he), .int (tok), .int (val), .ref mc, .ref ml, .ref mn, .int (nI se), .ref mk, .ref mg, .ref mh, .ref mq, .int (tn)])), (mt, .inl (E.2.1 1, 160, .inl (by_))), (mc, .inl (E.2.1 1, 9, .inl (cf))), (ml, .inl (E.2.1 1, 35, .inl (lf)))]) 0 0 99 [(2, .int (sm)), (3, .int (nI k)), (1, .int (nI n)), (0, .ref m0)] [.int (if (by_ (he + k)) = ((bytS.getD (nmL.getD n 0) []).getD k 0) then 1 else 0)] [(m0, .inr (5, [.ref ma, .int (nI nt), .int (nI pp), .int (th), .ref mp, .int (rn), .int (ro), .int (to), .int (wt), .int (hn), .int (ho), .ref mt, .int (nI tl), .int (fa), .int (bk), .int (ba), .int ((nI sq)), .int ((nI he)), .int (tok), .int (val), .ref mc, .ref ml, .ref mn, .int (nI se), .ref mk, .ref mg, .ref mh, .ref mq, .int (tn)])), (mt, .inl (E.2.1 1, 160, .inl (by_))), (mc, .inl (E.2.1 1, 9, .inl (cf))), (ml, .inl (E.2.1 1, 35, .inl (lf)))] by
                    refine v_icmp_ne (pc := 91) 98 dX5_nameHere_91 (by decide) (fun c_91 => ?_) (fun c_91 => ?_)
                    · skip
                      refine v_iconst (pc := 98) (v := 0) dX5_nameHere_98 (by decide) ?_
                      refine v_st ?_ J_91
                      rw [if_neg (show ¬ ((by_ (he + k)) = ((bytS.getD (nmL.getD n 0) []).getD k 0)) from c_91)]
                    · skip
                      refine v_iconst (pc := 94) (v := 1) dX5_nameHere_94 (by decide) ?_
                      refine v_goto (pc := 95) 99 dX5_nameHere_95 (by decide) ?_
                      refine v_st ?_ J_91
                      rw [if_pos (show (by_ (he + k)) = ((bytS.getD (nmL.getD n 0) []).getD k 0) from c_91)]
                  refine v_istore_n (pc := 99) (lv' := [(2, .int (if (by_ (he + k)) = ((bytS.getD (nmL.getD n 0) []).getD k 0) then 1 else 0)), (3, .int (nI k)), (1, .int (nI n)), (0, .ref m0)]) dX5_nameHere_99 rfl (by decide) rfl ?_
                  refine v_iinc (pc := 100) (v := nI (k + 1)) (lv' := [(3, .int (nI (k + 1))), (2, .int (if (by_ (he + k)) = ((bytS.getD (nmL.getD n 0) []).getD k 0) then 1 else 0)), (1, .int (nI n)), (0, .ref m0)]) 1 dX5_nameHere_100 rfl (nI_inc (k) 1) (by decide) rfl ?_
                  refine v_goto (pc := 103) 51 dX5_nameHere_103 (by decide) ?_
                  refine v_lv (lv' := [(2, .int (if (by_ (he + k)) = ((bytS.getD (nmL.getD n 0) []).getD k 0) then 1 else 0)), (3, .int (nI (k + 1))), (1, .int (nI n)), (0, .ref m0)]) [1, 0, 2, 3] rfl ?_
                  refine ih_51 (if (by_ (he + k)) = ((bytS.getD (nmL.getD n 0) []).getD k 0) then 1 else 0) (k + 1) (by omega) ?_ ?_
                  · exact ite_iff ⟨fun q => ⟨hsm.1, by simp only [eqB]; rw [hsm.2, decide_eq_true q]; rfl⟩, fun q => by have h := q.2; simp only [eqB, Bool.and_eq_true, decide_eq_true_eq] at h; exact h.2⟩
                  · omega
          refine v_lv (lv' := [(2, .int (if (sq - he) = (lenS.getD (nmL.getD n 0) 0) then 1 else 0)), (3, .int (nI 0)), (1, .int (nI n)), (0, .ref m0)]) [1, 0, 2, 3] rfl ?_
          refine loop_51 ((sq - he - 0) + 1) (if (sq - he) = (lenS.getD (nmL.getD n 0) 0) then 1 else 0) 0 (Nat.lt_succ_self _) ?_ ?_
          · exact ite_iff ⟨fun q => ⟨q, rfl⟩, fun q => q.1⟩
          · omega
  refine v_lv (lv' := [(1, .int (nI 0)), (0, .ref m0)]) [0, 1] rfl ?_
  refine loop_2 ((8 - 0) + 1) 0 (Nat.lt_succ_self _) ?_ ?_
  · rfl
  · omega
theorem c_X5_step (l : Launch) (E : VE) (m0 : Nat) (ma : Nat) (mp : Nat) (mt : Nat) (mc : Nat) (ml : Nat) (mn : Nat) (mk : Nat) (mg : Nat) (mh : Nat) (mq : Nat) (nt : Nat) (pp : Nat) (tl : Nat) (se : Nat) (th : Int32) (rn : Int32) (ro : Int32) (to : Int32) (wt : Int32) (hn : Int32) (ho : Int32) (fa : Int32) (bk : Int32) (ba : Int32) (tok : Int32) (val : Int32) (tn : Int32) (he : Nat) (by_ : Nat → Int32) (nx : Nat) (h_tl : tl ≤ 160) (h_nx : nx ≤ tl) (h_bk : bk = 0) (h_b : ∀ j, ¬ by_ j = -4) : Ct l E yX5_step cX5_step 2 (Option.none : Option Jvm.ClassFile.FieldType) 1 25 0 0 [.ref m0] [(m0, .inr (5, [.ref ma, .int (nI nt), .int (nI pp), .int (th), .ref mp, .int (rn), .int (ro), .int (to), .int (wt), .int (hn), .int (ho), .ref mt, .int (nI tl), .int (fa), .int (bk), .int (ba), .int (nI nx), .int (nI he), .int (tok), .int (val), .ref mc, .ref ml, .ref mn, .int (nI se), .ref mk, .ref mg, .ref mh, .ref mq, .int (tn)])), (mt, .inl (E.2.1 1, 160, .inl (by_)))] (fun v wd => ∃ (bk_ : Int32) (ba_ : Int32) (sp_ : Nat) (he_ : Nat) (to_ : Int32) (va_ : Int32), v = none ∧ wd = [(m0, .inr (5, [.ref ma, .int (nI nt), .int (nI pp), .int (th), .ref mp, .int (rn), .int (ro), .int (to), .int (wt), .int (hn), .int (ho), .ref mt, .int (nI tl), .int (fa), .int (bk_), .int (ba_), .int (nI sp_), .int (nI he_), .int (to_), .int (va_), .ref mc, .ref ml, .ref mn, .int (nI se), .ref mk, .ref mg, .ref mh, .ref mq, .int (tn)])), (mt, .inl (E.2.1 1, 160, .inl (by_)))] ∧ (Md by_ tl (0, nx) bk_ ba_ sp_ he_ to_ va_)) := by
  refine Ct.of (own := RX5) (nm := "step") (lv := [(0, .ref m0)]) (by decide) rfl rfl (Nat.le_of_ble_eq_true rfl) rfl ?_
  refine v_aload_n (pc := 0) 0 dX5_step_0 rfl rfl ?_
  refine gf_801 (pc := 1) 0 dX5_step_1 rfl rfl ?_
  refine v_if_le (pc := 4) 8 dX5_step_4 (by decide) (fun c_4 => ?_) (fun c_4 => ?_)
  · skip
    have loop_8 : ∀ (D_8 : Nat) (p : Nat), tl - p < D_8 → (nx ≤ p ∧ p ≤ tl) → (run qB by_ tl nx = run qB by_ tl p) → V l E RX5 cX5_step 2 (Option.none : Option Jvm.ClassFile.FieldType) "step" ({ frames := 1, cells := 0, slots := 0, locals := 25 }) [(m0, .inr (5, [.ref ma, .int (nI nt), .int (nI pp), .int (th), .ref mp, .int (rn), .int (ro), .int (to), .int (wt), .int (hn), .int (ho), .ref mt, .int (nI tl), .int (fa), .int (bk), .int (ba), .int (nI nx), .int (nI he), .int (tok), .int (val), .ref mc, .ref ml, .ref mn, .int (nI se), .ref mk, .ref mg, .ref mh, .ref mq, .int (tn)])), (mt, .inl (E.2.1 1, 160, .inl (by_)))] 0 0 (fun v wd => ∃ (bk_ : Int32) (ba_ : Int32) (sp_ : Nat) (he_ : Nat) (to_ : Int32) (va_ : Int32), v = none ∧ wd = [(m0, .inr (5, [.ref ma, .int (nI nt), .int (nI pp), .int (th), .ref mp, .int (rn), .int (ro), .int (to), .int (wt), .int (hn), .int (ho), .ref mt, .int (nI tl), .int (fa), .int (bk_), .int (ba_), .int (nI sp_), .int (nI he_), .int (to_), .int (va_), .ref mc, .ref ml, .ref mn, .int (nI se), .ref mk, .ref mg, .ref mh, .ref mq, .int (tn)])), (mt, .inl (E.2.1 1, 160, .inl (by_)))] ∧ (Md by_ tl (0, nx) bk_ ba_ sp_ he_ to_ va_)) 0 0 8 [(0, .ref m0)] [] [(m0, .inr (5, [.ref ma, .int (nI nt), .int (nI pp), .int (th), .ref mp, .int (rn), .int (ro), .int (to), .int (wt), .int (hn), .int (ho), .ref mt, .int (nI tl), .int (fa), .int (bk), .int (ba), .int (nI p), .int (nI he), .int (tok), .int (val), .ref mc, .ref ml, .ref mn, .int (nI se), .ref mk, .ref mg, .ref mh, .ref mq, .int (tn)])), (mt, .inl (E.2.1 1, 160, .inl (by_)))] := by
      intro D_8
      induction D_8 with
      | zero => intro p h; exact absurd h (Nat.not_lt_zero _)
      | succ D_8 ih_8 =>
        intro p hmu_8 h_8_0 h_8_1
        refine v_aload_n (pc := 8) 0 dX5_step_8 rfl rfl ?_
        refine v_aload_n (pc := 9) 0 dX5_step_9 rfl rfl ?_
        refine gf_803 (pc := 10) 0 dX5_step_10 rfl rfl ?_
        refine v_callV (pc := 13) (rest := []) [0, 1] 0 lk_895 (c_X5_byteAt l E m0 ma mp mt mc ml mn mk mg mh mq nt pp tl se th rn ro to wt hn ho fa bk ba (nI p) (nI he) tok val tn by_ p h_tl (by omega)) dX5_step_13 rfl rfl (Nat.le_of_ble_eq_true rfl) (by decide) rfl rfl rfl (by decide) rfl (Rt.len rfl) (Rt.go ?_)
        refine v_w (ws' := [(m0, .inr (5, [.ref ma, .int (nI nt), .int (nI pp), .int (th), .ref mp, .int (rn), .int (ro), .int (to), .int (wt), .int (hn), .int (ho), .ref mt, .int (nI tl), .int (fa), .int (bk), .int (ba), .int ((nI p)), .int ((nI he)), .int (tok), .int (val), .ref mc, .ref ml, .ref mn, .int (nI se), .ref mk, .ref mg, .ref mh, .ref mq, .int (tn)])), (mt, .inl (E.2.1 1, 160, .inl (by_)))]) rfl ?_
        refine v_st (st' := [.int (bA by_ tl p)]) rfl ?_
        refine v_bipush (pc := 16) (v := 32) dX5_step_16 (by decide) ?_
        refine v_icmp_ne (pc := 18) 34 dX5_step_18 (by decide) (fun c_18 => ?_) (fun c_18 => ?_)
        · skip
          have hS : tkS by_ tl nx = p := by unfold tkS; rw [h_8_1]; exact run_stop (fun q => c_18 (bS.mpr q))
          refine v_aload_n (pc := 34) 0 dX5_step_34 rfl rfl ?_
          refine v_aload_n (pc := 35) 0 dX5_step_35 rfl rfl ?_
          refine gf_803 (pc := 36) 0 dX5_step_36 rfl rfl ?_
          refine pf_804 (pc := 39) (ws' := [(m0, .inr (5, [.ref ma, .int (nI nt), .int (nI pp), .int (th), .ref mp, .int (rn), .int (ro), .int (to), .int (wt), .int (hn), .int (ho), .ref mt, .int (nI tl), .int (fa), .int (bk), .int (ba), .int ((nI p)), .int ((nI p)), .int (tok), .int (val), .ref mc, .ref ml, .ref mn, .int (nI se), .ref mk, .ref mg, .ref mh, .ref mq, .int (tn)])), (mt, .inl (E.2.1 1, 160, .inl (by_)))]) 0 dX5_step_39 rfl rfl rfl (Nat.le_of_ble_eq_true rfl) rfl ?_
          refine v_aload_n (pc := 42) 0 dX5_step_42 rfl rfl ?_
          refine v_aload_n (pc := 43) 0 dX5_step_43 rfl rfl ?_
          refine gf_803 (pc := 44) 0 dX5_step_44 rfl rfl ?_
          refine v_callV (pc := 47) (rest := []) [0, 1] 0 lk_895 (c_X5_byteAt l E m0 ma mp mt mc ml mn mk mg mh mq nt pp tl se th rn ro to wt hn ho fa bk ba (nI p) (nI p) tok val tn by_ p h_tl (by omega)) dX5_step_47 rfl rfl (Nat.le_of_ble_eq_true rfl) (by decide) rfl rfl rfl (by decide) rfl (Rt.len rfl) (Rt.go ?_)
          refine v_w (ws' := [(m0, .inr (5, [.ref ma, .int (nI nt), .int (nI pp), .int (th), .ref mp, .int (rn), .int (ro), .int (to), .int (wt), .int (hn), .int (ho), .ref mt, .int (nI tl), .int (fa), .int (bk), .int (ba), .int ((nI p)), .int ((nI p)), .int (tok), .int (val), .ref mc, .ref ml, .ref mn, .int (nI se), .ref mk, .ref mg, .ref mh, .ref mq, .int (tn)])), (mt, .inl (E.2.1 1, 160, .inl (by_)))]) rfl ?_
          refine v_st (st' := [.int (bA by_ tl p)]) rfl ?_
          refine v_istore_n (pc := 50) (lv' := [(1, .int (bA by_ tl p)), (0, .ref m0)]) dX5_step_50 rfl (by decide) rfl ?_
          refine v_aload_n (pc := 51) 1 dX5_step_51 rfl rfl ?_
          refine v_iconst (pc := 52) (v := 0) dX5_step_52 (by decide) ?_
          refine pf_806 (pc := 53) (ws' := [(m0, .inr (5, [.ref ma, .int (nI nt), .int (nI pp), .int (th), .ref mp, .int (rn), .int (ro), .int (to), .int (wt), .int (hn), .int (ho), .ref mt, .int (nI tl), .int (fa), .int (bk), .int (ba), .int ((nI p)), .int ((nI p)), .int (tok), .int (0), .ref mc, .ref ml, .ref mn, .int (nI se), .ref mk, .ref mg, .ref mh, .ref mq, .int (tn)])), (mt, .inl (E.2.1 1, 160, .inl (by_)))]) 0 dX5_step_53 rfl rfl rfl (Nat.le_of_ble_eq_true rfl) rfl ?_
          refine v_iload_n (pc := 56) 0 dX5_step_56 rfl rfl ?_
          refine v_bipush (pc := 57) (v := -4) dX5_step_57 (by decide) ?_
          refine v_icmp_ne (pc := 59) 70 dX5_step_59 (by decide) (fun c_59 => ?_) (fun c_59 => ?_)
          · skip
            refine v_iload_n (pc := 70) 0 dX5_step_70 rfl rfl ?_
            refine v_i2l (pc := 71) dX5_step_71 ?_
            refine v_ldc2 (pc := 72) dX5_step_72 tb_899 ?_
            refine v_ldc2 (pc := 75) dX5_step_75 tb_900 ?_
            refine v_callS (pc := 78) (rest := []) [] lk_880 (c_X5_in l E (Int32.toInt64 (bA by_ tl p)) 97 122) dX5_step_78 rfl rfl (Nat.le_of_ble_eq_true rfl) (by decide) (by decide) rfl (Rt.len rfl) (Rt.go ?_)
            refine v_w (ws' := [(m0, .inr (5, [.ref ma, .int (nI nt), .int (nI pp), .int (th), .ref mp, .int (rn), .int (ro), .int (to), .int (wt), .int (hn), .int (ho), .ref mt, .int (nI tl), .int (fa), .int (bk), .int (ba), .int ((nI p)), .int ((nI p)), .int (tok), .int (0), .ref mc, .ref ml, .ref mn, .int (nI se), .ref mk, .ref mg, .ref mh, .ref mq, .int (tn)])), (mt, .inl (E.2.1 1, 160, .inl (by_)))]) rfl ?_
            refine v_st (st' := [.int (if ¬ (Int32.toInt64 (bA by_ tl p)) < 97 ∧ ¬ 122 < (Int32.toInt64 (bA by_ tl p)) then 1 else 0)]) rfl ?_
            refine v_ifB_eq (pc := 81) 126 dX5_step_81 (by decide) (fun c_81 => ?_) (fun c_81 => ?_)
            · skip
              refine v_iload_n (pc := 126) 0 dX5_step_126 rfl rfl ?_
              refine v_i2l (pc := 127) dX5_step_127 ?_
              refine v_ldc2 (pc := 128) dX5_step_128 tb_901 ?_
              refine v_ldc2 (pc := 131) dX5_step_131 tb_902 ?_
              refine v_callS (pc := 134) (rest := []) [] lk_880 (c_X5_in l E (Int32.toInt64 (bA by_ tl p)) 48 57) dX5_step_134 rfl rfl (Nat.le_of_ble_eq_true rfl) (by decide) (by decide) rfl (Rt.len rfl) (Rt.go ?_)
              refine v_w (ws' := [(m0, .inr (5, [.ref ma, .int (nI nt), .int (nI pp), .int (th), .ref mp, .int (rn), .int (ro), .int (to), .int (wt), .int (hn), .int (ho), .ref mt, .int (nI tl), .int (fa), .int (bk), .int (ba), .int ((nI p)), .int ((nI p)), .int (tok), .int (0), .ref mc, .ref ml, .ref mn, .int (nI se), .ref mk, .ref mg, .ref mh, .ref mq, .int (tn)])), (mt, .inl (E.2.1 1, 160, .inl (by_)))]) rfl ?_
              refine v_st (st' := [.int (if ¬ (Int32.toInt64 (bA by_ tl p)) < 48 ∧ ¬ 57 < (Int32.toInt64 (bA by_ tl p)) then 1 else 0)]) rfl ?_
              refine v_ifB_eq (pc := 137) 243 dX5_step_137 (by decide) (fun c_137 => ?_) (fun c_137 => ?_)
              · skip
                have hpt : p < tl := by apply Decidable.byContradiction; intro z; exact c_59 (if_neg z)
                refine v_aload_n (pc := 243) 1 dX5_step_243 rfl rfl ?_
                refine v_iconst (pc := 244) (v := 3) dX5_step_244 (by decide) ?_
                refine pf_805 (pc := 245) (ws' := [(m0, .inr (5, [.ref ma, .int (nI nt), .int (nI pp), .int (th), .ref mp, .int (rn), .int (ro), .int (to), .int (wt), .int (hn), .int (ho), .ref mt, .int (nI tl), .int (fa), .int (bk), .int (ba), .int ((nI p)), .int ((nI p)), .int (3), .int (0), .ref mc, .ref ml, .ref mn, .int (nI se), .ref mk, .ref mg, .ref mh, .ref mq, .int (tn)])), (mt, .inl (E.2.1 1, 160, .inl (by_)))]) 0 dX5_step_245 rfl rfl rfl (Nat.le_of_ble_eq_true rfl) rfl ?_
                refine v_aload_n (pc := 248) 1 dX5_step_248 rfl rfl ?_
                refine v_dup (pc := 249) dX5_step_249 rfl ?_
                refine gf_803 (pc := 250) 0 dX5_step_250 rfl rfl ?_
                refine v_iconst (pc := 253) (v := 1) dX5_step_253 (by decide) ?_
                refine v_iadd (pc := 254) dX5_step_254 ?_
                refine v_st (st' := [.int (nI (p + 1)), .ref m0]) (congrArg (fun z => Value.int z :: _) (nI_add p 1)) ?_
                refine pf_803 (pc := 255) (ws' := [(m0, .inr (5, [.ref ma, .int (nI nt), .int (nI pp), .int (th), .ref mp, .int (rn), .int (ro), .int (to), .int (wt), .int (hn), .int (ho), .ref mt, .int (nI tl), .int (fa), .int (bk), .int (ba), .int (nI (p + 1)), .int ((nI p)), .int (3), .int (0), .ref mc, .ref ml, .ref mn, .int (nI se), .ref mk, .ref mg, .ref mh, .ref mq, .int (tn)])), (mt, .inl (E.2.1 1, 160, .inl (by_)))]) 0 dX5_step_255 rfl rfl rfl (Nat.le_of_ble_eq_true rfl) rfl ?_
                refine v_iload_n (pc := 258) 0 dX5_step_258 rfl rfl ?_
                refine v_bipush (pc := 259) (v := 59) dX5_step_259 (by decide) ?_
                refine v_icmp_eq (pc := 261) 269 dX5_step_261 (by decide) (fun c_261 => ?_) (fun c_261 => ?_)
                · skip
                  refine v_vret (pc := 269) dX5_step_269 rfl ⟨rfl, rfl⟩ ⟨(bk), (ba), (p + 1), (p), (3), (0), ?_, rfl, ?_⟩
                  · skip
                    rfl
                  · skip
                    have hpt : p < tl := by apply Decidable.byContradiction; intro z; exact c_59 (if_neg z)
                    have hN : tkN by_ tl nx = p + 1 := by unfold tkN; rw [hS, if_neg (show ¬ tl ≤ p by omega), if_neg (show ¬ qL (by_ p) = true from fun z => c_81 (bL.mpr ⟨hpt, z⟩)), if_neg (show ¬ qD (by_ p) = true from fun z => c_137 (bD.mpr ⟨hpt, z⟩))]
                    have hK : tkK by_ tl nx = 3 := by unfold tkK; rw [hS, if_neg (show ¬ tl ≤ p by omega), if_neg (show ¬ qL (by_ p) = true from fun z => c_81 (bL.mpr ⟨hpt, z⟩)), if_neg (show ¬ qD (by_ p) = true from fun z => c_137 (bD.mpr ⟨hpt, z⟩))]
                    have hO : tkO by_ tl nx = true := by unfold tkO; rw [hS, if_neg (show ¬ tl ≤ p by omega), if_neg (show ¬ qL (by_ p) = true from fun z => c_81 (bL.mpr ⟨hpt, z⟩)), if_neg (show ¬ qD (by_ p) = true from fun z => c_137 (bD.mpr ⟨hpt, z⟩))]; exact decide_eq_true (by rw [← bA_in (b := by_) hpt]; exact c_261)
                    have hV : tkV by_ tl nx 0 = 0 := by unfold tkV; rw [hS, if_neg (show ¬ tl ≤ p by omega), if_neg (show ¬ qL (by_ p) = true from fun z => c_81 (bL.mpr ⟨hpt, z⟩)), if_neg (show ¬ qD (by_ p) = true from fun z => c_137 (bD.mpr ⟨hpt, z⟩))]
                    exact Md.ok h_nx hO h_bk hN.symm hS.symm hK.symm hV.symm
                · skip
                  refine v_aload_n (pc := 264) 1 dX5_step_264 rfl rfl ?_
                  refine v_iconst (pc := 265) (v := 1) dX5_step_265 (by decide) ?_
                  refine v_callV (pc := 266) (rest := []) [0] 0 lk_903 (c_X5_fails l E m0 ma mp mt mc ml mn mk mg mh mq nt pp tl se th rn ro to wt hn ho fa bk ba (nI (p + 1)) (nI p) 3 0 tn 1) dX5_step_266 rfl rfl (Nat.le_of_ble_eq_true rfl) (by decide) rfl rfl rfl (by decide) rfl (Rt.len rfl) (Rt.go ?_)
                  refine v_w (ws' := [(m0, .inr (5, [.ref ma, .int (nI nt), .int (nI pp), .int (th), .ref mp, .int (rn), .int (ro), .int (to), .int (wt), .int (hn), .int (ho), .ref mt, .int (nI tl), .int (fa), .int (if bk = 0 then 1 else bk), .int (if bk = 0 then (nI p) else ba), .int ((nI (p + 1))), .int ((nI p)), .int (3), .int (0), .ref mc, .ref ml, .ref mn, .int (nI se), .ref mk, .ref mg, .ref mh, .ref mq, .int (tn)])), (mt, .inl (E.2.1 1, 160, .inl (by_)))]) rfl ?_
                  refine v_st (st' := []) rfl ?_
                  refine v_vret (pc := 269) dX5_step_269 rfl ⟨rfl, rfl⟩ ⟨(if bk = 0 then 1 else bk), (if bk = 0 then (nI p) else ba), (p + 1), (p), (3), (0), ?_, rfl, ?_⟩
                  · skip
                    rfl
                  · skip
                    have hpt : p < tl := by apply Decidable.byContradiction; intro z; exact c_59 (if_neg z)
                    have hN : tkN by_ tl nx = p + 1 := by unfold tkN; rw [hS, if_neg (show ¬ tl ≤ p by omega), if_neg (show ¬ qL (by_ p) = true from fun z => c_81 (bL.mpr ⟨hpt, z⟩)), if_neg (show ¬ qD (by_ p) = true from fun z => c_137 (bD.mpr ⟨hpt, z⟩))]
                    have hK : tkK by_ tl nx = 3 := by unfold tkK; rw [hS, if_neg (show ¬ tl ≤ p by omega), if_neg (show ¬ qL (by_ p) = true from fun z => c_81 (bL.mpr ⟨hpt, z⟩)), if_neg (show ¬ qD (by_ p) = true from fun z => c_137 (bD.mpr ⟨hpt, z⟩))]
                    have hO : tkO by_ tl nx = false := by unfold tkO; rw [hS, if_neg (show ¬ tl ≤ p by omega), if_neg (show ¬ qL (by_ p) = true from fun z => c_81 (bL.mpr ⟨hpt, z⟩)), if_neg (show ¬ qD (by_ p) = true from fun z => c_137 (bD.mpr ⟨hpt, z⟩))]; exact decide_eq_false (by rw [← bA_in (b := by_) hpt]; exact c_261)
                    exact Md.tok h_nx (by omega) (by omega) (by rw [hO]; decide) (by rw [if_pos h_bk]) (by rw [if_pos h_bk, hS])
              · skip
                have hpt : p < tl := (bD.mp c_137).1
                have loop_140 : ∀ (D_140 : Nat) (p3 : Nat) (vv : Int32), tl - p3 < D_140 → (p ≤ p3 ∧ p3 ≤ tl) → (run qD by_ tl p = run qD by_ tl p3) → (p3 - p ≤ 2 → vv = dgV by_ p (p3 - p)) → V l E RX5 cX5_step 2 (Option.none : Option Jvm.ClassFile.FieldType) "step" ({ frames := 1, cells := 0, slots := 0, locals := 25 }) [(m0, .inr (5, [.ref ma, .int (nI nt), .int (nI pp), .int (th), .ref mp, .int (rn), .int (ro), .int (to), .int (wt), .int (hn), .int (ho), .ref mt, .int (nI tl), .int (fa), .int (bk), .int (ba), .int (nI nx), .int (nI he), .int (tok), .int (val), .ref mc, .ref ml, .ref mn, .int (nI se), .ref mk, .ref mg, .ref mh, .ref mq, .int (tn)])), (mt, .inl (E.2.1 1, 160, .inl (by_)))] 0 0 (fun v wd => ∃ (bk_ : Int32) (ba_ : Int32) (sp_ : Nat) (he_ : Nat) (to_ : Int32) (va_ : Int32), v = none ∧ wd = [(m0, .inr (5, [.ref ma, .int (nI nt), .int (nI pp), .int (th), .ref mp, .int (rn), .int (ro), .int (to), .int (wt), .int (hn), .int (ho), .ref mt, .int (nI tl), .int (fa), .int (bk_), .int (ba_), .int (nI sp_), .int (nI he_), .int (to_), .int (va_), .ref mc, .ref ml, .ref mn, .int (nI se), .ref mk, .ref mg, .ref mh, .ref mq, .int (tn)])), (mt, .inl (E.2.1 1, 160, .inl (by_)))] ∧ (Md by_ tl (0, nx) bk_ ba_ sp_ he_ to_ va_)) 0 0 140 [(1, .int (bA by_ tl p)), (0, .ref m0)] [] [(m0, .inr (5, [.ref ma, .int (nI nt), .int (nI pp), .int (th), .ref mp, .int (rn), .int (ro), .int (to), .int (wt), .int (hn), .int (ho), .ref mt, .int (nI tl), .int (fa), .int (bk), .int (ba), .int (nI p3), .int (nI p), .int (tok), .int (vv), .ref mc, .ref ml, .ref mn, .int (nI se), .ref mk, .ref mg, .ref mh, .ref mq, .int (tn)])), (mt, .inl (E.2.1 1, 160, .inl (by_)))] := by
                  intro D_140
                  induction D_140 with
                  | zero => intro p3 vv h; exact absurd h (Nat.not_lt_zero _)
                  | succ D_140 ih_140 =>
                    intro p3 vv hmu_140 h_140_0 h_140_1 h_140_2
                    refine v_aload_n (pc := 140) 1 dX5_step_140 rfl rfl ?_
                    refine v_aload_n (pc := 141) 1 dX5_step_141 rfl rfl ?_
                    refine gf_803 (pc := 142) 0 dX5_step_142 rfl rfl ?_
                    refine v_callV (pc := 145) (rest := []) [0, 1] 0 lk_895 (c_X5_byteAt l E m0 ma mp mt mc ml mn mk mg mh mq nt pp tl se th rn ro to wt hn ho fa bk ba (nI p3) (nI p) tok vv tn by_ p3 h_tl (by omega)) dX5_step_145 rfl rfl (Nat.le_of_ble_eq_true rfl) (by decide) rfl rfl rfl (by decide) rfl (Rt.len rfl) (Rt.go ?_)
                    refine v_w (ws' := [(m0, .inr (5, [.ref ma, .int (nI nt), .int (nI pp), .int (th), .ref mp, .int (rn), .int (ro), .int (to), .int (wt), .int (hn), .int (ho), .ref mt, .int (nI tl), .int (fa), .int (bk), .int (ba), .int ((nI p3)), .int ((nI p)), .int (tok), .int (vv), .ref mc, .ref ml, .ref mn, .int (nI se), .ref mk, .ref mg, .ref mh, .ref mq, .int (tn)])), (mt, .inl (E.2.1 1, 160, .inl (by_)))]) rfl ?_
                    refine v_st (st' := [.int (bA by_ tl p3)]) rfl ?_
                    refine v_i2l (pc := 148) dX5_step_148 ?_
                    refine v_ldc2 (pc := 149) dX5_step_149 tb_901 ?_
                    refine v_ldc2 (pc := 152) dX5_step_152 tb_902 ?_
                    refine v_callS (pc := 155) (rest := []) [] lk_880 (c_X5_in l E (Int32.toInt64 (bA by_ tl p3)) 48 57) dX5_step_155 rfl rfl (Nat.le_of_ble_eq_true rfl) (by decide) (by decide) rfl (Rt.len rfl) (Rt.go ?_)
                    refine v_w (ws' := [(m0, .inr (5, [.ref ma, .int (nI nt), .int (nI pp), .int (th), .ref mp, .int (rn), .int (ro), .int (to), .int (wt), .int (hn), .int (ho), .ref mt, .int (nI tl), .int (fa), .int (bk), .int (ba), .int ((nI p3)), .int ((nI p)), .int (tok), .int (vv), .ref mc, .ref ml, .ref mn, .int (nI se), .ref mk, .ref mg, .ref mh, .ref mq, .int (tn)])), (mt, .inl (E.2.1 1, 160, .inl (by_)))]) rfl ?_
                    refine v_st (st' := [.int (if ¬ (Int32.toInt64 (bA by_ tl p3)) < 48 ∧ ¬ 57 < (Int32.toInt64 (bA by_ tl p3)) then 1 else 0)]) rfl ?_
                    refine v_ifB_eq (pc := 158) 217 dX5_step_158 (by decide) (fun c_158 => ?_) (fun c_158 => ?_)
                    · skip
                      refine v_aload_n (pc := 217) 1 dX5_step_217 rfl rfl ?_
                      refine v_iconst (pc := 218) (v := 2) dX5_step_218 (by decide) ?_
                      refine pf_805 (pc := 219) (ws' := [(m0, .inr (5, [.ref ma, .int (nI nt), .int (nI pp), .int (th), .ref mp, .int (rn), .int (ro), .int (to), .int (wt), .int (hn), .int (ho), .ref mt, .int (nI tl), .int (fa), .int (bk), .int (ba), .int ((nI p3)), .int ((nI p)), .int (2), .int (vv), .ref mc, .ref ml, .ref mn, .int (nI se), .ref mk, .ref mg, .ref mh, .ref mq, .int (tn)])), (mt, .inl (E.2.1 1, 160, .inl (by_)))]) 0 dX5_step_219 rfl rfl rfl (Nat.le_of_ble_eq_true rfl) rfl ?_
                      refine v_aload_n (pc := 222) 1 dX5_step_222 rfl rfl ?_
                      refine gf_803 (pc := 223) 0 dX5_step_223 rfl rfl ?_
                      refine v_aload_n (pc := 226) 1 dX5_step_226 rfl rfl ?_
                      refine gf_804 (pc := 227) 0 dX5_step_227 rfl rfl ?_
                      refine v_isub (pc := 230) dX5_step_230 ?_
                      refine v_st (st' := [.int (nI (p3 - p))]) (by rw [pk_sub (by omega)]) ?_
                      refine v_iconst (pc := 231) (v := 2) dX5_step_231 (by decide) ?_
                      refine v_cmpN_le (pc := 232) (a := p3 - p) (b := 2) 269 dX5_step_232 (by decide) (by omega) (by omega) (fun c_232 => ?_) (fun c_232 => ?_)
                      · skip
                        refine v_vret (pc := 269) dX5_step_269 rfl ⟨rfl, rfl⟩ ⟨(bk), (ba), (p3), (p), (2), (vv), ?_, rfl, ?_⟩
                        · skip
                          rfl
                        · skip
                          have hpt : p < tl := by apply Decidable.byContradiction; intro z; exact c_59 (if_neg z)
                          have hr : run qD by_ tl p = p3 := by rw [h_140_1]; exact run_stop (fun q => c_158 (bD.mpr q))
                          have hN : tkN by_ tl nx = p3 := by unfold tkN; rw [hS, if_neg (show ¬ tl ≤ p by omega), if_neg (show ¬ qL (by_ p) = true from fun z => c_81 (bL.mpr ⟨hpt, z⟩)), if_pos (bD.mp c_137).2, hr]
                          have hK : tkK by_ tl nx = 2 := by unfold tkK; rw [hS, if_neg (show ¬ tl ≤ p by omega), if_neg (show ¬ qL (by_ p) = true from fun z => c_81 (bL.mpr ⟨hpt, z⟩)), if_pos (bD.mp c_137).2]
                          have hO : tkO by_ tl nx = true := by unfold tkO; rw [hS, if_neg (show ¬ tl ≤ p by omega), if_neg (show ¬ qL (by_ p) = true from fun z => c_81 (bL.mpr ⟨hpt, z⟩)), if_pos (bD.mp c_137).2, hr]; exact decide_eq_true (by omega)
                          have hV : tkV by_ tl nx 0 = vv := by unfold tkV; rw [hS, if_neg (show ¬ tl ≤ p by omega), if_neg (show ¬ qL (by_ p) = true from fun z => c_81 (bL.mpr ⟨hpt, z⟩)), if_pos (bD.mp c_137).2, hr]; exact (h_140_2 (by omega)).symm
                          exact Md.ok h_nx hO h_bk hN.symm hS.symm hK.symm hV.symm
                      · skip
                        refine v_aload_n (pc := 235) 1 dX5_step_235 rfl rfl ?_
                        refine v_iconst (pc := 236) (v := 1) dX5_step_236 (by decide) ?_
                        refine v_callV (pc := 237) (rest := []) [0] 0 lk_903 (c_X5_fails l E m0 ma mp mt mc ml mn mk mg mh mq nt pp tl se th rn ro to wt hn ho fa bk ba (nI p3) (nI p) 2 vv tn 1) dX5_step_237 rfl rfl (Nat.le_of_ble_eq_true rfl) (by decide) rfl rfl rfl (by decide) rfl (Rt.len rfl) (Rt.go ?_)
                        refine v_w (ws' := [(m0, .inr (5, [.ref ma, .int (nI nt), .int (nI pp), .int (th), .ref mp, .int (rn), .int (ro), .int (to), .int (wt), .int (hn), .int (ho), .ref mt, .int (nI tl), .int (fa), .int (if bk = 0 then 1 else bk), .int (if bk = 0 then (nI p) else ba), .int ((nI p3)), .int ((nI p)), .int (2), .int (vv), .ref mc, .ref ml, .ref mn, .int (nI se), .ref mk, .ref mg, .ref mh, .ref mq, .int (tn)])), (mt, .inl (E.2.1 1, 160, .inl (by_)))]) rfl ?_
                        refine v_st (st' := []) rfl ?_
                        refine v_goto (pc := 240) 269 dX5_step_240 (by decide) ?_
                        refine v_vret (pc := 269) dX5_step_269 rfl ⟨rfl, rfl⟩ ⟨(if bk = 0 then 1 else bk), (if bk = 0 then (nI p) else ba), (p3), (p), (2), (vv), ?_, rfl, ?_⟩
                        · skip
                          rfl
                        · skip
                          have hpt : p < tl := by apply Decidable.byContradiction; intro z; exact c_59 (if_neg z)
                          have hr : run qD by_ tl p = p3 := by rw [h_140_1]; exact run_stop (fun q => c_158 (bD.mpr q))
                          have hN : tkN by_ tl nx = p3 := by unfold tkN; rw [hS, if_neg (show ¬ tl ≤ p by omega), if_neg (show ¬ qL (by_ p) = true from fun z => c_81 (bL.mpr ⟨hpt, z⟩)), if_pos (bD.mp c_137).2, hr]
                          have hK : tkK by_ tl nx = 2 := by unfold tkK; rw [hS, if_neg (show ¬ tl ≤ p by omega), if_neg (show ¬ qL (by_ p) = true from fun z => c_81 (bL.mpr ⟨hpt, z⟩)), if_pos (bD.mp c_137).2]
                          have hO : tkO by_ tl nx = false := by unfold tkO; rw [hS, if_neg (show ¬ tl ≤ p by omega), if_neg (show ¬ qL (by_ p) = true from fun z => c_81 (bL.mpr ⟨hpt, z⟩)), if_pos (bD.mp c_137).2, hr]; exact decide_eq_false (by omega)
                          exact Md.tok h_nx (by omega) (by omega) (by rw [hO]; decide) (by rw [if_pos h_bk]) (by rw [if_pos h_bk, hS])
                    · skip
                      refine v_aload_n (pc := 161) 1 dX5_step_161 rfl rfl ?_
                      refine v_aload_n (pc := 162) 1 dX5_step_162 rfl rfl ?_
                      refine gf_803 (pc := 163) 0 dX5_step_163 rfl rfl ?_
                      refine v_aload_n (pc := 166) 1 dX5_step_166 rfl rfl ?_
                      refine gf_804 (pc := 167) 0 dX5_step_167 rfl rfl ?_
                      refine v_isub (pc := 170) dX5_step_170 ?_
                      refine v_st (st' := [.int (nI (p3 - p)), .ref m0]) (by rw [pk_sub (by omega)]) ?_
                      refine v_iconst (pc := 171) (v := 2) dX5_step_171 (by decide) ?_
                      refine v_cmpN_ge (pc := 172) (a := p3 - p) (b := 2) 197 dX5_step_172 (by decide) (by omega) (by omega) (fun c_172 => ?_) (fun c_172 => ?_)
                      · skip
                        refine v_aload_n (pc := 197) 1 dX5_step_197 rfl rfl ?_
                        refine gf_806 (pc := 198) 0 dX5_step_198 rfl rfl ?_
                        refine pf_806 (pc := 201) (ws' := [(m0, .inr (5, [.ref ma, .int (nI nt), .int (nI pp), .int (th), .ref mp, .int (rn), .int (ro), .int (to), .int (wt), .int (hn), .int (ho), .ref mt, .int (nI tl), .int (fa), .int (bk), .int (ba), .int ((nI p3)), .int ((nI p)), .int (tok), .int (vv), .ref mc, .ref ml, .ref mn, .int (nI se), .ref mk, .ref mg, .ref mh, .ref mq, .int (tn)])), (mt, .inl (E.2.1 1, 160, .inl (by_)))]) 0 dX5_step_201 rfl rfl rfl (Nat.le_of_ble_eq_true rfl) rfl ?_
                        refine v_aload_n (pc := 204) 1 dX5_step_204 rfl rfl ?_
                        refine v_dup (pc := 205) dX5_step_205 rfl ?_
                        refine gf_803 (pc := 206) 0 dX5_step_206 rfl rfl ?_
                        refine v_iconst (pc := 209) (v := 1) dX5_step_209 (by decide) ?_
                        refine v_iadd (pc := 210) dX5_step_210 ?_
                        refine v_st (st' := [.int (nI (p3 + 1)), .ref m0]) (congrArg (fun z => Value.int z :: _) (nI_add p3 1)) ?_
                        refine pf_803 (pc := 211) (ws' := [(m0, .inr (5, [.ref ma, .int (nI nt), .int (nI pp), .int (th), .ref mp, .int (rn), .int (ro), .int (to), .int (wt), .int (hn), .int (ho), .ref mt, .int (nI tl), .int (fa), .int (bk), .int (ba), .int (nI (p3 + 1)), .int ((nI p)), .int (tok), .int (vv), .ref mc, .ref ml, .ref mn, .int (nI se), .ref mk, .ref mg, .ref mh, .ref mq, .int (tn)])), (mt, .inl (E.2.1 1, 160, .inl (by_)))]) 0 dX5_step_211 rfl rfl rfl (Nat.le_of_ble_eq_true rfl) rfl ?_
                        refine v_goto (pc := 214) 140 dX5_step_214 (by decide) ?_
                        refine v_lv (lv' := [(1, .int (bA by_ tl p)), (0, .ref m0)]) [0, 1] rfl ?_
                        refine ih_140 (p3 + 1) vv (by have := (bD.mp c_158).1; omega) ?_ ?_ ?_
                        · have := (bD.mp c_158).1; omega
                        · rw [h_140_1]; exact run_step (bD.mp c_158).1 (bD.mp c_158).2
                        · intro q; omega
                      · skip
                        refine v_bipush (pc := 175) (v := 10) dX5_step_175 (by decide) ?_
                        refine v_aload_n (pc := 177) 1 dX5_step_177 rfl rfl ?_
                        refine gf_806 (pc := 178) 0 dX5_step_178 rfl rfl ?_
                        refine v_imul (pc := 181) dX5_step_181 ?_
                        refine v_aload_n (pc := 182) 1 dX5_step_182 rfl rfl ?_
                        refine v_aload_n (pc := 183) 1 dX5_step_183 rfl rfl ?_
                        refine gf_803 (pc := 184) 0 dX5_step_184 rfl rfl ?_
                        refine v_callV (pc := 187) (rest := [.int ((10) * (vv)), .ref m0]) [0, 1] 0 lk_895 (c_X5_byteAt l E m0 ma mp mt mc ml mn mk mg mh mq nt pp tl se th rn ro to wt hn ho fa bk ba (nI p3) (nI p) tok vv tn by_ p3 h_tl (by omega)) dX5_step_187 rfl rfl (Nat.le_of_ble_eq_true rfl) (by decide) rfl rfl rfl (by decide) rfl (Rt.len rfl) (Rt.go ?_)
                        refine v_w (ws' := [(m0, .inr (5, [.ref ma, .int (nI nt), .int (nI pp), .int (th), .ref mp, .int (rn), .int (ro), .int (to), .int (wt), .int (hn), .int (ho), .ref mt, .int (nI tl), .int (fa), .int (bk), .int (ba), .int ((nI p3)), .int ((nI p)), .int (tok), .int (vv), .ref mc, .ref ml, .ref mn, .int (nI se), .ref mk, .ref mg, .ref mh, .ref mq, .int (tn)])), (mt, .inl (E.2.1 1, 160, .inl (by_)))]) rfl ?_
                        refine v_st (st' := [.int (bA by_ tl p3), .int ((10) * (vv)), .ref m0]) rfl ?_
                        refine v_st (st' := [.int (by_ p3), .int ((10) * (vv)), .ref m0]) (by rw [bA_in (bD.mp c_158).1]) ?_
                        refine v_iadd (pc := 190) dX5_step_190 ?_
                        refine v_bipush (pc := 191) (v := 48) dX5_step_191 (by decide) ?_
                        refine v_isub (pc := 193) dX5_step_193 ?_
                        refine v_goto (pc := 194) 201 dX5_step_194 (by decide) ?_
                        refine pf_806 (pc := 201) (ws' := [(m0, .inr (5, [.ref ma, .int (nI nt), .int (nI pp), .int (th), .ref mp, .int (rn), .int (ro), .int (to), .int (wt), .int (hn), .int (ho), .ref mt, .int (nI tl), .int (fa), .int (bk), .int (ba), .int ((nI p3)), .int ((nI p)), .int (tok), .int ((((10) * (vv)) + (by_ p3)) - (48)), .ref mc, .ref ml, .ref mn, .int (nI se), .ref mk, .ref mg, .ref mh, .ref mq, .int (tn)])), (mt, .inl (E.2.1 1, 160, .inl (by_)))]) 0 dX5_step_201 rfl rfl rfl (Nat.le_of_ble_eq_true rfl) rfl ?_
                        refine v_aload_n (pc := 204) 1 dX5_step_204 rfl rfl ?_
                        refine v_dup (pc := 205) dX5_step_205 rfl ?_
                        refine gf_803 (pc := 206) 0 dX5_step_206 rfl rfl ?_
                        refine v_iconst (pc := 209) (v := 1) dX5_step_209 (by decide) ?_
                        refine v_iadd (pc := 210) dX5_step_210 ?_
                        refine v_st (st' := [.int (nI (p3 + 1)), .ref m0]) (congrArg (fun z => Value.int z :: _) (nI_add p3 1)) ?_
                        refine pf_803 (pc := 211) (ws' := [(m0, .inr (5, [.ref ma, .int (nI nt), .int (nI pp), .int (th), .ref mp, .int (rn), .int (ro), .int (to), .int (wt), .int (hn), .int (ho), .ref mt, .int (nI tl), .int (fa), .int (bk), .int (ba), .int (nI (p3 + 1)), .int ((nI p)), .int (tok), .int ((((10) * (vv)) + (by_ p3)) - (48)), .ref mc, .ref ml, .ref mn, .int (nI se), .ref mk, .ref mg, .ref mh, .ref mq, .int (tn)])), (mt, .inl (E.2.1 1, 160, .inl (by_)))]) 0 dX5_step_211 rfl rfl rfl (Nat.le_of_ble_eq_true rfl) rfl ?_
                        refine v_goto (pc := 214) 140 dX5_step_214 (by decide) ?_
                        refine v_lv (lv' := [(1, .int (bA by_ tl p)), (0, .ref m0)]) [0, 1] rfl ?_
                        refine ih_140 (p3 + 1) ((((10) * (vv)) + (by_ p3)) - (48)) (by have := (bD.mp c_158).1; omega) ?_ ?_ ?_
                        · have := (bD.mp c_158).1; omega
                        · rw [h_140_1]; exact run_step (bD.mp c_158).1 (bD.mp c_158).2
                        · intro _; rw [show p3 + 1 - p = (p3 - p) + 1 by omega, dgV, ← h_140_2 (by omega), show p + (p3 - p) = p3 by omega, Int32.mul_comm]
                refine v_lv (lv' := [(1, .int (bA by_ tl p)), (0, .ref m0)]) [0, 1] rfl ?_
                refine loop_140 ((tl - p) + 1) p 0 (Nat.lt_succ_self _) ?_ ?_ ?_
                · omega
                · rfl
                · intro _; rw [Nat.sub_self]; rfl
            · skip
              have hpt : p < tl := (bL.mp c_81).1
              have loop_84 : ∀ (D_84 : Nat) (p2 : Nat), tl - p2 < D_84 → (p ≤ p2 ∧ p2 ≤ tl) → (run qL by_ tl p = run qL by_ tl p2) → V l E RX5 cX5_step 2 (Option.none : Option Jvm.ClassFile.FieldType) "step" ({ frames := 1, cells := 0, slots := 0, locals := 25 }) [(m0, .inr (5, [.ref ma, .int (nI nt), .int (nI pp), .int (th), .ref mp, .int (rn), .int (ro), .int (to), .int (wt), .int (hn), .int (ho), .ref mt, .int (nI tl), .int (fa), .int (bk), .int (ba), .int (nI nx), .int (nI he), .int (tok), .int (val), .ref mc, .ref ml, .ref mn, .int (nI se), .ref mk, .ref mg, .ref mh, .ref mq, .int (tn)])), (mt, .inl (E.2.1 1, 160, .inl (by_)))] 0 0 (fun v wd => ∃ (bk_ : Int32) (ba_ : Int32) (sp_ : Nat) (he_ : Nat) (to_ : Int32) (va_ : Int32), v = none ∧ wd = [(m0, .inr (5, [.ref ma, .int (nI nt), .int (nI pp), .int (th), .ref mp, .int (rn), .int (ro), .int (to), .int (wt), .int (hn), .int (ho), .ref mt, .int (nI tl), .int (fa), .int (bk_), .int (ba_), .int (nI sp_), .int (nI he_), .int (to_), .int (va_), .ref mc, .ref ml, .ref mn, .int (nI se), .ref mk, .ref mg, .ref mh, .ref mq, .int (tn)])), (mt, .inl (E.2.1 1, 160, .inl (by_)))] ∧ (Md by_ tl (0, nx) bk_ ba_ sp_ he_ to_ va_)) 0 0 84 [(1, .int (bA by_ tl p)), (0, .ref m0)] [] [(m0, .inr (5, [.ref ma, .int (nI nt), .int (nI pp), .int (th), .ref mp, .int (rn), .int (ro), .int (to), .int (wt), .int (hn), .int (ho), .ref mt, .int (nI tl), .int (fa), .int (bk), .int (ba), .int (nI p2), .int (nI p), .int (tok), .int (0), .ref mc, .ref ml, .ref mn, .int (nI se), .ref mk, .ref mg, .ref mh, .ref mq, .int (tn)])), (mt, .inl (E.2.1 1, 160, .inl (by_)))] := by
                intro D_84
                induction D_84 with
                | zero => intro p2 h; exact absurd h (Nat.not_lt_zero _)
                | succ D_84 ih_84 =>
                  intro p2 hmu_84 h_84_0 h_84_1
                  refine v_aload_n (pc := 84) 1 dX5_step_84 rfl rfl ?_
                  refine v_aload_n (pc := 85) 1 dX5_step_85 rfl rfl ?_
                  refine gf_803 (pc := 86) 0 dX5_step_86 rfl rfl ?_
                  refine v_callV (pc := 89) (rest := []) [0, 1] 0 lk_895 (c_X5_byteAt l E m0 ma mp mt mc ml mn mk mg mh mq nt pp tl se th rn ro to wt hn ho fa bk ba (nI p2) (nI p) tok 0 tn by_ p2 h_tl (by omega)) dX5_step_89 rfl rfl (Nat.le_of_ble_eq_true rfl) (by decide) rfl rfl rfl (by decide) rfl (Rt.len rfl) (Rt.go ?_)
                  refine v_w (ws' := [(m0, .inr (5, [.ref ma, .int (nI nt), .int (nI pp), .int (th), .ref mp, .int (rn), .int (ro), .int (to), .int (wt), .int (hn), .int (ho), .ref mt, .int (nI tl), .int (fa), .int (bk), .int (ba), .int ((nI p2)), .int ((nI p)), .int (tok), .int (0), .ref mc, .ref ml, .ref mn, .int (nI se), .ref mk, .ref mg, .ref mh, .ref mq, .int (tn)])), (mt, .inl (E.2.1 1, 160, .inl (by_)))]) rfl ?_
                  refine v_st (st' := [.int (bA by_ tl p2)]) rfl ?_
                  refine v_i2l (pc := 92) dX5_step_92 ?_
                  refine v_ldc2 (pc := 93) dX5_step_93 tb_899 ?_
                  refine v_ldc2 (pc := 96) dX5_step_96 tb_900 ?_
                  refine v_callS (pc := 99) (rest := []) [] lk_880 (c_X5_in l E (Int32.toInt64 (bA by_ tl p2)) 97 122) dX5_step_99 rfl rfl (Nat.le_of_ble_eq_true rfl) (by decide) (by decide) rfl (Rt.len rfl) (Rt.go ?_)
                  refine v_w (ws' := [(m0, .inr (5, [.ref ma, .int (nI nt), .int (nI pp), .int (th), .ref mp, .int (rn), .int (ro), .int (to), .int (wt), .int (hn), .int (ho), .ref mt, .int (nI tl), .int (fa), .int (bk), .int (ba), .int ((nI p2)), .int ((nI p)), .int (tok), .int (0), .ref mc, .ref ml, .ref mn, .int (nI se), .ref mk, .ref mg, .ref mh, .ref mq, .int (tn)])), (mt, .inl (E.2.1 1, 160, .inl (by_)))]) rfl ?_
                  refine v_st (st' := [.int (if ¬ (Int32.toInt64 (bA by_ tl p2)) < 97 ∧ ¬ 122 < (Int32.toInt64 (bA by_ tl p2)) then 1 else 0)]) rfl ?_
                  refine v_ifB_eq (pc := 102) 118 dX5_step_102 (by decide) (fun c_102 => ?_) (fun c_102 => ?_)
                  · skip
                    refine v_aload_n (pc := 118) 1 dX5_step_118 rfl rfl ?_
                    refine v_iconst (pc := 119) (v := 1) dX5_step_119 (by decide) ?_
                    refine pf_805 (pc := 120) (ws' := [(m0, .inr (5, [.ref ma, .int (nI nt), .int (nI pp), .int (th), .ref mp, .int (rn), .int (ro), .int (to), .int (wt), .int (hn), .int (ho), .ref mt, .int (nI tl), .int (fa), .int (bk), .int (ba), .int ((nI p2)), .int ((nI p)), .int (1), .int (0), .ref mc, .ref ml, .ref mn, .int (nI se), .ref mk, .ref mg, .ref mh, .ref mq, .int (tn)])), (mt, .inl (E.2.1 1, 160, .inl (by_)))]) 0 dX5_step_120 rfl rfl rfl (Nat.le_of_ble_eq_true rfl) rfl ?_
                    refine v_goto (pc := 123) 269 dX5_step_123 (by decide) ?_
                    refine v_vret (pc := 269) dX5_step_269 rfl ⟨rfl, rfl⟩ ⟨(bk), (ba), (p2), (p), (1), (0), ?_, rfl, ?_⟩
                    · skip
                      rfl
                    · skip
                      have hpt : p < tl := by apply Decidable.byContradiction; intro z; exact c_59 (if_neg z)
                      have hr : run qL by_ tl p = p2 := by rw [h_84_1]; exact run_stop (fun q => c_102 (bL.mpr q))
                      have hN : tkN by_ tl nx = p2 := by unfold tkN; rw [hS, if_neg (show ¬ tl ≤ p by omega), if_pos (bL.mp c_81).2, hr]
                      have hK : tkK by_ tl nx = 1 := by unfold tkK; rw [hS, if_neg (show ¬ tl ≤ p by omega), if_pos (bL.mp c_81).2]
                      have hO : tkO by_ tl nx = true := by unfold tkO; rw [hS, if_neg (show ¬ tl ≤ p by omega), if_pos (bL.mp c_81).2]
                      have hV : tkV by_ tl nx 0 = 0 := by unfold tkV; rw [hS, if_neg (show ¬ tl ≤ p by omega), if_pos (bL.mp c_81).2]
                      exact Md.ok h_nx hO h_bk hN.symm hS.symm hK.symm hV.symm
                  · skip
                    refine v_aload_n (pc := 105) 1 dX5_step_105 rfl rfl ?_
                    refine v_dup (pc := 106) dX5_step_106 rfl ?_
                    refine gf_803 (pc := 107) 0 dX5_step_107 rfl rfl ?_
                    refine v_iconst (pc := 110) (v := 1) dX5_step_110 (by decide) ?_
                    refine v_iadd (pc := 111) dX5_step_111 ?_
                    refine v_st (st' := [.int (nI (p2 + 1)), .ref m0]) (congrArg (fun z => Value.int z :: _) (nI_add p2 1)) ?_
                    refine pf_803 (pc := 112) (ws' := [(m0, .inr (5, [.ref ma, .int (nI nt), .int (nI pp), .int (th), .ref mp, .int (rn), .int (ro), .int (to), .int (wt), .int (hn), .int (ho), .ref mt, .int (nI tl), .int (fa), .int (bk), .int (ba), .int (nI (p2 + 1)), .int ((nI p)), .int (tok), .int (0), .ref mc, .ref ml, .ref mn, .int (nI se), .ref mk, .ref mg, .ref mh, .ref mq, .int (tn)])), (mt, .inl (E.2.1 1, 160, .inl (by_)))]) 0 dX5_step_112 rfl rfl rfl (Nat.le_of_ble_eq_true rfl) rfl ?_
                    refine v_goto (pc := 115) 84 dX5_step_115 (by decide) ?_
                    refine v_lv (lv' := [(1, .int (bA by_ tl p)), (0, .ref m0)]) [0, 1] rfl ?_
                    refine ih_84 (p2 + 1) (by have := (bL.mp c_102).1; omega) ?_ ?_
                    · have := (bL.mp c_102).1; omega
                    · rw [h_84_1]; exact run_step (bL.mp c_102).1 (bL.mp c_102).2
              refine v_lv (lv' := [(1, .int (bA by_ tl p)), (0, .ref m0)]) [0, 1] rfl ?_
              refine loop_84 ((tl - p) + 1) p (Nat.lt_succ_self _) ?_ ?_
              · omega
              · rfl
          · skip
            refine v_aload_n (pc := 62) 1 dX5_step_62 rfl rfl ?_
            refine v_iconst (pc := 63) (v := 0) dX5_step_63 (by decide) ?_
            refine pf_805 (pc := 64) (ws' := [(m0, .inr (5, [.ref ma, .int (nI nt), .int (nI pp), .int (th), .ref mp, .int (rn), .int (ro), .int (to), .int (wt), .int (hn), .int (ho), .ref mt, .int (nI tl), .int (fa), .int (bk), .int (ba), .int ((nI p)), .int ((nI p)), .int (0), .int (0), .ref mc, .ref ml, .ref mn, .int (nI se), .ref mk, .ref mg, .ref mh, .ref mq, .int (tn)])), (mt, .inl (E.2.1 1, 160, .inl (by_)))]) 0 dX5_step_64 rfl rfl rfl (Nat.le_of_ble_eq_true rfl) rfl ?_
            refine v_goto (pc := 67) 269 dX5_step_67 (by decide) ?_
            refine v_vret (pc := 269) dX5_step_269 rfl ⟨rfl, rfl⟩ ⟨(bk), (ba), (p), (p), (0), (0), ?_, rfl, ?_⟩
            · skip
              rfl
            · skip
              have hpt : ¬ p < tl := fun z => h_b p (by rw [← bA_in (b := by_) z]; exact c_59)
              have hN : tkN by_ tl nx = p := by unfold tkN; rw [hS, if_pos (show tl ≤ p by omega)]
              have hK : tkK by_ tl nx = 0 := by unfold tkK; rw [hS, if_pos (show tl ≤ p by omega)]
              have hO : tkO by_ tl nx = true := by unfold tkO; rw [hS, if_pos (show tl ≤ p by omega)]
              have hV : tkV by_ tl nx 0 = 0 := by unfold tkV; rw [hS, if_pos (show tl ≤ p by omega)]
              exact Md.ok h_nx hO h_bk hN.symm hS.symm hK.symm hV.symm
        · skip
          refine v_aload_n (pc := 21) 0 dX5_step_21 rfl rfl ?_
          refine v_dup (pc := 22) dX5_step_22 rfl ?_
          refine gf_803 (pc := 23) 0 dX5_step_23 rfl rfl ?_
          refine v_iconst (pc := 26) (v := 1) dX5_step_26 (by decide) ?_
          refine v_iadd (pc := 27) dX5_step_27 ?_
          refine v_st (st' := [.int (nI (p + 1)), .ref m0]) (congrArg (fun z => Value.int z :: _) (nI_add p 1)) ?_
          refine pf_803 (pc := 28) (ws' := [(m0, .inr (5, [.ref ma, .int (nI nt), .int (nI pp), .int (th), .ref mp, .int (rn), .int (ro), .int (to), .int (wt), .int (hn), .int (ho), .ref mt, .int (nI tl), .int (fa), .int (bk), .int (ba), .int (nI (p + 1)), .int ((nI he)), .int (tok), .int (val), .ref mc, .ref ml, .ref mn, .int (nI se), .ref mk, .ref mg, .ref mh, .ref mq, .int (tn)])), (mt, .inl (E.2.1 1, 160, .inl (by_)))]) 0 dX5_step_28 rfl rfl rfl (Nat.le_of_ble_eq_true rfl) rfl ?_
          refine v_goto (pc := 31) 8 dX5_step_31 (by decide) ?_
          refine v_lv (lv' := [(0, .ref m0)]) [0] rfl ?_
          refine ih_8 (p + 1) (by have := (bS.mp c_18).1; omega) ?_ ?_
          · have := (bS.mp c_18).1; omega
          · rw [h_8_1]; exact run_step (bS.mp c_18).1 (bS.mp c_18).2
    refine v_lv (lv' := [(0, .ref m0)]) [0] rfl ?_
    refine loop_8 ((tl - nx) + 1) nx (Nat.lt_succ_self _) ?_ ?_
    · omega
    · rfl
  · skip
    exact absurd (by rw [h_bk]; decide) c_4
theorem cB_X5_step (l : Launch) (E : VE) (m0 : Nat) (ma : Nat) (mp : Nat) (mt : Nat) (mc : Nat) (ml : Nat) (mn : Nat) (mk : Nat) (mg : Nat) (mh : Nat) (mq : Nat) (nt : Nat) (pp : Nat) (tl : Nat) (se : Nat) (th : Int32) (rn : Int32) (ro : Int32) (to : Int32) (wt : Int32) (hn : Int32) (ho : Int32) (fa : Int32) (bk : Int32) (ba : Int32) (spt : Int32) (hre : Int32) (tok : Int32) (val : Int32) (tn : Int32) (h_bk : 0 < bk) : Ct l E yX5_step cX5_step 2 (Option.none : Option Jvm.ClassFile.FieldType) 0 0 0 0 [.ref m0] [(m0, .inr (5, [.ref ma, .int (nI nt), .int (nI pp), .int (th), .ref mp, .int (rn), .int (ro), .int (to), .int (wt), .int (hn), .int (ho), .ref mt, .int (nI tl), .int (fa), .int (bk), .int (ba), .int (spt), .int (hre), .int (tok), .int (val), .ref mc, .ref ml, .ref mn, .int (nI se), .ref mk, .ref mg, .ref mh, .ref mq, .int (tn)]))] (Rt none [(m0, .inr (5, [.ref ma, .int (nI nt), .int (nI pp), .int (th), .ref mp, .int (rn), .int (ro), .int (to), .int (wt), .int (hn), .int (ho), .ref mt, .int (nI tl), .int (fa), .int (bk), .int (ba), .int (spt), .int (hre), .int (tok), .int (val), .ref mc, .ref ml, .ref mn, .int (nI se), .ref mk, .ref mg, .ref mh, .ref mq, .int (tn)]))]) := by
  refine Ct.of (own := RX5) (nm := "step") (lv := [(0, .ref m0)]) (by decide) rfl rfl (Nat.le_of_ble_eq_true rfl) rfl ?_
  refine v_aload_n (pc := 0) 0 dX5_step_0 rfl rfl ?_
  refine gf_801 (pc := 1) 0 dX5_step_1 rfl rfl ?_
  refine v_if_le (pc := 4) 8 dX5_step_4 (by decide) (fun c_4 => ?_) (fun c_4 => ?_)
  · skip
    exact absurd h_bk (Int32.not_lt.mpr c_4)
  · skip
    refine v_vret (pc := 7) dX5_step_7 rfl ⟨rfl, rfl⟩ (Rt.w ?_)
    first | simp only [if_neg c_4] | rfl
