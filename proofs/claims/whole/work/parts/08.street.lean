abbrev okN (x : Int32) (b : Nat) : Prop := ¬ x < 0 ∧ ¬ nI b ≤ x
theorem pw31 : ∀ n : Nat, n < 31 → (1 : Int32) <<< (nI n &&& 31) = nI (2 ^ n) := by decide +kernel
theorem pwm {n : Nat} (h : n < 31) : (1 : Int32) <<< (nI n &&& 31) - 1 = nI (2 ^ n - 1) := by
  rw [pw31 n h]
  exact pk_sub (b := 1) (Nat.one_le_two_pow)
/-- a RULE holds for a set -/
abbrev hldP (hm o nd br s : Int32) : Prop := bt1 hm o = 0 ∧ nd &&& (s ^^^ -1) = 0 ∧ br &&& s = 0
def hp (hm : Int32) (on nd br : Nat → Int32) (s : Int32) : Nat → Bool := fun k => decide (hldP hm (on k) (nd k) (br k) s)
/-- the bits that w names, of those k that p has -/
def orF (p : Nat → Bool) (w : Nat → Int32) : Nat → Int32
  | 0 => 0
  | n + 1 => if p n = true then orF p w n ||| ((1 : Int32) <<< (w n &&& 31)) else orF p w n
def outc (rl : Nat) (hm sp : Int32) (on wr nd br : Nat → Int32) (s : Int32) : Int32 := orF (hp hm on nd br s) wr rl &&& (sp ^^^ -1)
def begK (hl : Int32) (nd wr : Nat → Int32) (pos : Int32) : Nat → Int32 → Int32
  | 0, b => b
  | n + 1, b => if bt1 hl (nI n) = 1 ∧ nd n &&& (begK hl nd wr pos n b ^^^ -1) = 0 then begK hl nd wr pos n b ||| (((1 : Int32) <<< (wr n &&& 31)) &&& pos) else begK hl nd wr pos n b
def begT (rl : Nat) (hl : Int32) (nd wr : Nat → Int32) (pos : Int32) : Nat → Int32
  | 0 => 0
  | t + 1 => begK hl nd wr pos rl (begT rl hl nd wr pos t)
def begs (rl : Nat) (hm sp : Int32) (on wr nd br : Nat → Int32) (s : Int32) : Int32 := begT rl (orF (hp hm on nd br s) (fun k => nI k) rl) nd wr (s &&& (sp ^^^ -1)) 6
def wrts (rl : Nat) (hm : Int32) (on wr nd br : Nat → Int32) (s n : Int32) : Int32 := orF (fun k => decide (wr k = n) && hp hm on nd br s k) on rl
def sumW (wo : Nat → Int32) (s : Int32) : Nat → Int32
  | 0 => 0
  | n + 1 => if bt1 s (nI n) = 1 then sumW wo s n + wo n else sumW wo s n
def fillI {α : Type} (f : Nat → α) (v : α) (n : Nat) : Nat → α := fun j => if j < n then v else f j
theorem fillI_0 {α : Type} (f : Nat → α) (v : α) : fillI f v 0 = f := by funext j; simp [fillI]
theorem fillI_s (f : Nat → Int32) (v : Int32) (n : Nat) : upd (fillI f v n) n v = fillI f v (n + 1) := by
  funext j
  unfold fillI upd
  by_cases h : j = n
  · subst h; simp
  · by_cases h2 : j < n
    · simp [h, h2, Nat.lt_succ_of_lt h2]
    · simp [h, h2, show ¬ j < n + 1 by omega]
theorem fillI_sL (f : Nat → Int64) (v : Int64) (n : Nat) : vp_updL (fillI f v n) n v = fillI f v (n + 1) := by
  funext j
  unfold fillI vp_updL
  by_cases h : j = n
  · subst h; simp
  · by_cases h2 : j < n
    · simp [h, h2, Nat.lt_succ_of_lt h2]
    · simp [h, h2, show ¬ j < n + 1 by omega]
theorem c_J7_fill_53178 (l : Launch) (E : VE) (a : Nat) (N : Nat) (f : Nat → Int32) (v : Int32) (h_N : N < 2 ^ 31) : Ct l E yJ7_fill_53178 cJ7_fill_53178 4 (Option.none : Option Jvm.ClassFile.FieldType) 0 0 0 0 [.ref a, .int (v)] [(a, .inl (E.2.1 1, N, .inl (f)))] (Rt none [(a, .inl (E.2.1 1, N, .inl (fillI f v N)))]) := by
  refine Ct.of (own := RJ7) (nm := "fill") (lv := [(0, .ref a), (1, .int (v))]) (by decide) rfl rfl (Nat.le_of_ble_eq_true rfl) rfl ?_
  refine v_iconst (pc := 0) (v := 0) dJ7_fill_53178_0 (by decide) ?_
  refine v_istore_n (pc := 1) (lv' := [(2, .int (0)), (0, .ref a), (1, .int (v))]) dJ7_fill_53178_1 rfl (by decide) rfl ?_
  refine v_aload_n (pc := 2) 1 dJ7_fill_53178_2 rfl rfl ?_
  refine v_alen (pc := 3) 0 1 dJ7_fill_53178_3 rfl rfl rfl ?_
  refine v_istore_n (pc := 4) (lv' := [(3, .int (nI N)), (2, .int (0)), (0, .ref a), (1, .int (v))]) dJ7_fill_53178_4 rfl (by decide) rfl ?_
  have loop_5 : ∀ (D_5 : Nat) (i : Nat) (g : Nat → Int32), N - i < D_5 → (i ≤ N) → (g = fillI f v i) → V l E RJ7 cJ7_fill_53178 4 (Option.none : Option Jvm.ClassFile.FieldType) "fill" ({ frames := 0, cells := 0, slots := 0, locals := 0 }) [(a, .inl (E.2.1 1, N, .inl (f)))] 0 0 (Rt none [(a, .inl (E.2.1 1, N, .inl (fillI f v N)))]) 0 0 5 [(2, .int (nI i)), (0, .ref a), (1, .int (v)), (3, .int (nI N))] [] [(a, .inl (E.2.1 1, N, .inl (g)))] := by
    intro D_5
    induction D_5 with
    | zero => intro i g h; exact absurd h (Nat.not_lt_zero _)
    | succ D_5 ih_5 =>
      intro i g hmu_5 h_5_0 h_5_1
      refine v_iload_n (pc := 5) 0 dJ7_fill_53178_5 rfl rfl ?_
      refine v_iload_n (pc := 6) 3 dJ7_fill_53178_6 rfl rfl ?_
      refine v_cmpN_ge (pc := 7) (a := i) (b := N) 20 dJ7_fill_53178_7 (by decide) (by omega) (by omega) (fun c_7 => ?_) (fun c_7 => ?_)
      · skip
        refine v_vret (pc := 20) dJ7_fill_53178_20 rfl ⟨rfl, rfl⟩ (Rt.w ?_)
        obtain rfl : i = N := by omega
        rw [h_5_1]
      · skip
        refine v_aload_n (pc := 10) 1 dJ7_fill_53178_10 rfl rfl ?_
        refine v_iload_n (pc := 11) 0 dJ7_fill_53178_11 rfl rfl ?_
        refine v_iload_n (pc := 12) 2 dJ7_fill_53178_12 rfl rfl ?_
        refine v_iastN (pc := 13) (ws' := [(a, .inl (E.2.1 1, N, .inl (upd (g) (i) (v))))]) 0 1 (i) dJ7_fill_53178_13 rfl rfl rfl (by omega) (by omega) rfl ?_
        refine v_iinc (pc := 14) (v := nI (i + 1)) (lv' := [(2, .int (nI (i + 1))), (0, .ref a), (1, .int (v)), (3, .int (nI N))]) 0 dJ7_fill_53178_14 rfl (nI_inc (i) 1) (by decide) rfl ?_
        refine v_goto (pc := 17) 5 dJ7_fill_53178_17 (by decide) ?_
        refine v_lv (lv' := [(2, .int (nI (i + 1))), (0, .ref a), (1, .int (v)), (3, .int (nI N))]) [0, 1, 2, 3] rfl ?_
        refine ih_5 (i + 1) (upd (g) (i) (v)) (by omega) ?_ ?_
        · omega
        · rw [h_5_1]; exact fillI_s f v i
  refine v_lv (lv' := [(2, .int (nI 0)), (0, .ref a), (1, .int (v)), (3, .int (nI N))]) [1, 2, 3, 0] rfl ?_
  refine loop_5 ((N - 0) + 1) 0 f (Nat.lt_succ_self _) ?_ ?_
  · omega
  · exact (fillI_0 f v).symm
theorem c_J7_fill_d0a16 (l : Launch) (E : VE) (a : Nat) (N : Nat) (f : Nat → Int64) (v : Int64) (h_N : N < 2 ^ 31) : Ct l E yJ7_fill_d0a16 cJ7_fill_d0a16 5 (Option.none : Option Jvm.ClassFile.FieldType) 0 0 0 0 [.ref a, .long (v)] [(a, .inl (E.2.1 2, N, .inr (.inl (f))))] (Rt none [(a, .inl (E.2.1 2, N, .inr (.inl (fillI f v N))))]) := by
  refine Ct.of (own := RJ7) (nm := "fill") (lv := [(0, .ref a), (1, .long (v))]) (by decide) rfl rfl (Nat.le_of_ble_eq_true rfl) rfl ?_
  refine v_iconst (pc := 0) (v := 0) dJ7_fill_d0a16_0 (by decide) ?_
  refine v_istore_n (pc := 1) (lv' := [(3, .int (0)), (0, .ref a), (1, .long (v))]) dJ7_fill_d0a16_1 rfl (by decide) rfl ?_
  refine v_aload_n (pc := 2) 1 dJ7_fill_d0a16_2 rfl rfl ?_
  refine v_alen (pc := 3) 0 2 dJ7_fill_d0a16_3 rfl rfl rfl ?_
  refine v_istore (pc := 4) (lv' := [(4, .int (nI N)), (3, .int (0)), (0, .ref a), (1, .long (v))]) dJ7_fill_d0a16_4 (by decide) rfl ?_
  have loop_6 : ∀ (D_6 : Nat) (i : Nat) (g : Nat → Int64), N - i < D_6 → (i ≤ N) → (g = fillI f v i) → V l E RJ7 cJ7_fill_d0a16 5 (Option.none : Option Jvm.ClassFile.FieldType) "fill" ({ frames := 0, cells := 0, slots := 0, locals := 0 }) [(a, .inl (E.2.1 2, N, .inr (.inl (f))))] 0 0 (Rt none [(a, .inl (E.2.1 2, N, .inr (.inl (fillI f v N))))]) 0 0 6 [(3, .int (nI i)), (0, .ref a), (1, .long (v)), (4, .int (nI N))] [] [(a, .inl (E.2.1 2, N, .inr (.inl (g))))] := by
    intro D_6
    induction D_6 with
    | zero => intro i g h; exact absurd h (Nat.not_lt_zero _)
    | succ D_6 ih_6 =>
      intro i g hmu_6 h_6_0 h_6_1
      refine v_iload_n (pc := 6) 0 dJ7_fill_d0a16_6 rfl rfl ?_
      refine v_iload (pc := 7) 3 dJ7_fill_d0a16_7 rfl ?_
      refine v_cmpN_ge (pc := 9) (a := i) (b := N) 22 dJ7_fill_d0a16_9 (by decide) (by omega) (by omega) (fun c_9 => ?_) (fun c_9 => ?_)
      · skip
        refine v_vret (pc := 22) dJ7_fill_d0a16_22 rfl ⟨rfl, rfl⟩ (Rt.w ?_)
        obtain rfl : i = N := by omega
        rw [h_6_1]
      · skip
        refine v_aload_n (pc := 12) 1 dJ7_fill_d0a16_12 rfl rfl ?_
        refine v_iload_n (pc := 13) 0 dJ7_fill_d0a16_13 rfl rfl ?_
        refine v_lload_n (pc := 14) 2 dJ7_fill_d0a16_14 rfl rfl ?_
        refine v_lastN (pc := 15) (ws' := [(a, .inl (E.2.1 2, N, .inr (.inl (vp_updL (g) (i) (v)))))]) 0 2 (i) dJ7_fill_d0a16_15 rfl rfl rfl (by omega) (by omega) rfl ?_
        refine v_iinc (pc := 16) (v := nI (i + 1)) (lv' := [(3, .int (nI (i + 1))), (0, .ref a), (1, .long (v)), (4, .int (nI N))]) 0 dJ7_fill_d0a16_16 rfl (nI_inc (i) 1) (by decide) rfl ?_
        refine v_goto (pc := 19) 6 dJ7_fill_d0a16_19 (by decide) ?_
        refine v_lv (lv' := [(3, .int (nI (i + 1))), (0, .ref a), (1, .long (v)), (4, .int (nI N))]) [0, 1, 2, 3] rfl ?_
        refine ih_6 (i + 1) (vp_updL (g) (i) (v)) (by omega) ?_ ?_
        · omega
        · rw [h_6_1]; exact fillI_sL f v i
  refine v_lv (lv' := [(3, .int (nI 0)), (0, .ref a), (1, .long (v)), (4, .int (nI N))]) [1, 2, 3, 0] rfl ?_
  refine loop_6 ((N - 0) + 1) 0 f (Nat.lt_succ_self _) ?_ ?_
  · omega
  · exact (fillI_0 f v).symm
theorem c_X2_hasNote (l : Launch) (E : VE) (a0 : Nat) (ao : Nat) (aw : Nat) (an : Nat) (ab : Nat) (av : Nat) (nt : Nat) (pp : Nat) (rl : Nat) (hm : Int32) (sp : Int32) (td : Int32) (dt : Int32) (x : Int32) : Ct l E yX2_hasNote cX2_hasNote 2 (Option.some FieldType.boolean) 0 0 0 0 [.ref a0, .int (x)] [(a0, .inr (2, [.int (nI nt), .int (nI pp), .int (nI rl), .int (hm), .int (sp), .int (td), .int (dt), .ref ao, .ref aw, .ref an, .ref ab, .ref av]))] (Rt (some (.int (if okN x nt then 1 else 0))) [(a0, .inr (2, [.int (nI nt), .int (nI pp), .int (nI rl), .int (hm), .int (sp), .int (td), .int (dt), .ref ao, .ref aw, .ref an, .ref ab, .ref av]))]) := by
  refine Ct.of (own := RX2) (nm := "hasNote") (lv := [(0, .ref a0), (1, .int (x))]) (by decide) rfl rfl (Nat.le_of_ble_eq_true rfl) rfl ?_
  refine v_iload_n (pc := 0) 1 dX2_hasNote_0 rfl rfl ?_
  refine v_if_lt (pc := 1) 16 dX2_hasNote_1 (by decide) (fun c_1 => ?_) (fun c_1 => ?_)
  · skip
    refine v_iconst (pc := 16) (v := 0) dX2_hasNote_16 (by decide) ?_
    refine v_zret (pc := 17) dX2_hasNote_17 rfl rfl ⟨rfl, rfl⟩ (Rt.i ?_)
    first | exact (if_pos (by simp only [okN, hldP, *, not_false_eq_true, not_true_eq_false, and_self, true_and, and_true, true_or, or_true])).symm | exact (if_neg (by simp only [okN, hldP, *, not_false_eq_true, not_true_eq_false, false_and, and_false, or_self, or_false, false_or])).symm
  · skip
    refine v_iload_n (pc := 4) 1 dX2_hasNote_4 rfl rfl ?_
    refine v_aload_n (pc := 5) 0 dX2_hasNote_5 rfl rfl ?_
    refine gf_87 (pc := 6) 0 dX2_hasNote_6 rfl rfl ?_
    refine v_icmp_ge (pc := 9) 16 dX2_hasNote_9 (by decide) (fun c_9 => ?_) (fun c_9 => ?_)
    · skip
      refine v_iconst (pc := 16) (v := 0) dX2_hasNote_16 (by decide) ?_
      refine v_zret (pc := 17) dX2_hasNote_17 rfl rfl ⟨rfl, rfl⟩ (Rt.i ?_)
      first | exact (if_pos (by simp only [okN, hldP, *, not_false_eq_true, not_true_eq_false, and_self, true_and, and_true, true_or, or_true])).symm | exact (if_neg (by simp only [okN, hldP, *, not_false_eq_true, not_true_eq_false, false_and, and_false, or_self, or_false, false_or])).symm
    · skip
      refine v_iconst (pc := 12) (v := 1) dX2_hasNote_12 (by decide) ?_
      refine v_goto (pc := 13) 17 dX2_hasNote_13 (by decide) ?_
      refine v_zret (pc := 17) dX2_hasNote_17 rfl rfl ⟨rfl, rfl⟩ (Rt.i ?_)
      first | exact (if_pos (by simp only [okN, hldP, *, not_false_eq_true, not_true_eq_false, and_self, true_and, and_true, true_or, or_true])).symm | exact (if_neg (by simp only [okN, hldP, *, not_false_eq_true, not_true_eq_false, false_and, and_false, or_self, or_false, false_or])).symm
theorem c_X2_hasRule (l : Launch) (E : VE) (a0 : Nat) (ao : Nat) (aw : Nat) (an : Nat) (ab : Nat) (av : Nat) (nt : Nat) (pp : Nat) (rl : Nat) (hm : Int32) (sp : Int32) (td : Int32) (dt : Int32) (x : Int32) : Ct l E yX2_hasRule cX2_hasRule 2 (Option.some FieldType.boolean) 0 0 0 0 [.ref a0, .int (x)] [(a0, .inr (2, [.int (nI nt), .int (nI pp), .int (nI rl), .int (hm), .int (sp), .int (td), .int (dt), .ref ao, .ref aw, .ref an, .ref ab, .ref av]))] (Rt (some (.int (if okN x rl then 1 else 0))) [(a0, .inr (2, [.int (nI nt), .int (nI pp), .int (nI rl), .int (hm), .int (sp), .int (td), .int (dt), .ref ao, .ref aw, .ref an, .ref ab, .ref av]))]) := by
  refine Ct.of (own := RX2) (nm := "hasRule") (lv := [(0, .ref a0), (1, .int (x))]) (by decide) rfl rfl (Nat.le_of_ble_eq_true rfl) rfl ?_
  refine v_iload_n (pc := 0) 1 dX2_hasRule_0 rfl rfl ?_
  refine v_if_lt (pc := 1) 16 dX2_hasRule_1 (by decide) (fun c_1 => ?_) (fun c_1 => ?_)
  · skip
    refine v_iconst (pc := 16) (v := 0) dX2_hasRule_16 (by decide) ?_
    refine v_zret (pc := 17) dX2_hasRule_17 rfl rfl ⟨rfl, rfl⟩ (Rt.i ?_)
    first | exact (if_pos (by simp only [okN, hldP, *, not_false_eq_true, not_true_eq_false, and_self, true_and, and_true, true_or, or_true])).symm | exact (if_neg (by simp only [okN, hldP, *, not_false_eq_true, not_true_eq_false, false_and, and_false, or_self, or_false, false_or])).symm
  · skip
    refine v_iload_n (pc := 4) 1 dX2_hasRule_4 rfl rfl ?_
    refine v_aload_n (pc := 5) 0 dX2_hasRule_5 rfl rfl ?_
    refine gf_94 (pc := 6) 0 dX2_hasRule_6 rfl rfl ?_
    refine v_icmp_ge (pc := 9) 16 dX2_hasRule_9 (by decide) (fun c_9 => ?_) (fun c_9 => ?_)
    · skip
      refine v_iconst (pc := 16) (v := 0) dX2_hasRule_16 (by decide) ?_
      refine v_zret (pc := 17) dX2_hasRule_17 rfl rfl ⟨rfl, rfl⟩ (Rt.i ?_)
      first | exact (if_pos (by simp only [okN, hldP, *, not_false_eq_true, not_true_eq_false, and_self, true_and, and_true, true_or, or_true])).symm | exact (if_neg (by simp only [okN, hldP, *, not_false_eq_true, not_true_eq_false, false_and, and_false, or_self, or_false, false_or])).symm
    · skip
      refine v_iconst (pc := 12) (v := 1) dX2_hasRule_12 (by decide) ?_
      refine v_goto (pc := 13) 17 dX2_hasRule_13 (by decide) ?_
      refine v_zret (pc := 17) dX2_hasRule_17 rfl rfl ⟨rfl, rfl⟩ (Rt.i ?_)
      first | exact (if_pos (by simp only [okN, hldP, *, not_false_eq_true, not_true_eq_false, and_self, true_and, and_true, true_or, or_true])).symm | exact (if_neg (by simp only [okN, hldP, *, not_false_eq_true, not_true_eq_false, false_and, and_false, or_self, or_false, false_or])).symm
theorem c_X2_allNotes (l : Launch) (E : VE) (a0 : Nat) (ao : Nat) (aw : Nat) (an : Nat) (ab : Nat) (av : Nat) (nt : Nat) (pp : Nat) (rl : Nat) (hm : Int32) (sp : Int32) (td : Int32) (dt : Int32) (h_nt : nt ≤ 6) : Ct l E yX2_allNotes cX2_allNotes 1 (Option.some FieldType.int) 0 0 0 0 [.ref a0] [(a0, .inr (2, [.int (nI nt), .int (nI pp), .int (nI rl), .int (hm), .int (sp), .int (td), .int (dt), .ref ao, .ref aw, .ref an, .ref ab, .ref av]))] (Rt (some (.int (nI (2 ^ nt - 1)))) [(a0, .inr (2, [.int (nI nt), .int (nI pp), .int (nI rl), .int (hm), .int (sp), .int (td), .int (dt), .ref ao, .ref aw, .ref an, .ref ab, .ref av]))]) := by
  refine Ct.of (own := RX2) (nm := "allNotes") (lv := [(0, .ref a0)]) (by decide) rfl rfl (Nat.le_of_ble_eq_true rfl) rfl ?_
  refine v_iconst (pc := 0) (v := 1) dX2_allNotes_0 (by decide) ?_
  refine v_aload_n (pc := 1) 0 dX2_allNotes_1 rfl rfl ?_
  refine gf_87 (pc := 2) 0 dX2_allNotes_2 rfl rfl ?_
  refine v_ishl (pc := 5) dX2_allNotes_5 ?_
  refine v_iconst (pc := 6) (v := 1) dX2_allNotes_6 (by decide) ?_
  refine v_isub (pc := 7) dX2_allNotes_7 ?_
  refine v_iret (pc := 8) dX2_allNotes_8 rfl ⟨rfl, rfl⟩ (Rt.i ?_)
  exact pwm (by omega)
theorem c_X2_allRules (l : Launch) (E : VE) (a0 : Nat) (ao : Nat) (aw : Nat) (an : Nat) (ab : Nat) (av : Nat) (nt : Nat) (pp : Nat) (rl : Nat) (hm : Int32) (sp : Int32) (td : Int32) (dt : Int32) (h_rl : rl ≤ 8) : Ct l E yX2_allRules cX2_allRules 1 (Option.some FieldType.int) 0 0 0 0 [.ref a0] [(a0, .inr (2, [.int (nI nt), .int (nI pp), .int (nI rl), .int (hm), .int (sp), .int (td), .int (dt), .ref ao, .ref aw, .ref an, .ref ab, .ref av]))] (Rt (some (.int (nI (2 ^ rl - 1)))) [(a0, .inr (2, [.int (nI nt), .int (nI pp), .int (nI rl), .int (hm), .int (sp), .int (td), .int (dt), .ref ao, .ref aw, .ref an, .ref ab, .ref av]))]) := by
  refine Ct.of (own := RX2) (nm := "allRules") (lv := [(0, .ref a0)]) (by decide) rfl rfl (Nat.le_of_ble_eq_true rfl) rfl ?_
  refine v_iconst (pc := 0) (v := 1) dX2_allRules_0 (by decide) ?_
  refine v_aload_n (pc := 1) 0 dX2_allRules_1 rfl rfl ?_
  refine gf_94 (pc := 2) 0 dX2_allRules_2 rfl rfl ?_
  refine v_ishl (pc := 5) dX2_allRules_5 ?_
  refine v_iconst (pc := 6) (v := 1) dX2_allRules_6 (by decide) ?_
  refine v_isub (pc := 7) dX2_allRules_7 ?_
  refine v_iret (pc := 8) dX2_allRules_8 rfl ⟨rfl, rfl⟩ (Rt.i ?_)
  exact pwm (by omega)
theorem c_X2_hasSet (l : Launch) (E : VE) (a0 : Nat) (ao : Nat) (aw : Nat) (an : Nat) (ab : Nat) (av : Nat) (nt : Nat) (pp : Nat) (rl : Nat) (hm : Int32) (sp : Int32) (td : Int32) (dt : Int32) (x : Int32) (h_nt : nt ≤ 6) : Ct l E yX2_hasSet cX2_hasSet 2 (Option.some FieldType.boolean) 1 20 0 0 [.ref a0, .int (x)] [(a0, .inr (2, [.int (nI nt), .int (nI pp), .int (nI rl), .int (hm), .int (sp), .int (td), .int (dt), .ref ao, .ref aw, .ref an, .ref ab, .ref av]))] (Rt (some (.int (if ¬ x < 0 ∧ ¬ nI (2 ^ nt - 1) < x then 1 else 0))) [(a0, .inr (2, [.int (nI nt), .int (nI pp), .int (nI rl), .int (hm), .int (sp), .int (td), .int (dt), .ref ao, .ref aw, .ref an, .ref ab, .ref av]))]) := by
  refine Ct.of (own := RX2) (nm := "hasSet") (lv := [(0, .ref a0), (1, .int (x))]) (by decide) rfl rfl (Nat.le_of_ble_eq_true rfl) rfl ?_
  refine v_iload_n (pc := 0) 1 dX2_hasSet_0 rfl rfl ?_
  refine v_if_lt (pc := 1) 16 dX2_hasSet_1 (by decide) (fun c_1 => ?_) (fun c_1 => ?_)
  · skip
    refine v_iconst (pc := 16) (v := 0) dX2_hasSet_16 (by decide) ?_
    refine v_zret (pc := 17) dX2_hasSet_17 rfl rfl ⟨rfl, rfl⟩ (Rt.i ?_)
    first | exact (if_pos (by simp only [okN, hldP, *, not_false_eq_true, not_true_eq_false, and_self, true_and, and_true, true_or, or_true])).symm | exact (if_neg (by simp only [okN, hldP, *, not_false_eq_true, not_true_eq_false, false_and, and_false, or_self, or_false, false_or])).symm
  · skip
    refine v_iload_n (pc := 4) 1 dX2_hasSet_4 rfl rfl ?_
    refine v_aload_n (pc := 5) 0 dX2_hasSet_5 rfl rfl ?_
    refine v_callV (pc := 6) (rest := [.int (x)]) [0] 0 lk_514 (c_X2_allNotes l E a0 ao aw an ab av nt pp rl hm sp td dt (by first | assumption | omega)) dX2_hasSet_6 rfl rfl (Nat.le_of_ble_eq_true rfl) (by decide) rfl rfl rfl (by decide) rfl (Rt.len rfl) (Rt.go ?_)
    refine v_w (ws' := [(a0, .inr (2, [.int (nI nt), .int (nI pp), .int (nI rl), .int (hm), .int (sp), .int (td), .int (dt), .ref ao, .ref aw, .ref an, .ref ab, .ref av]))]) rfl ?_
    refine v_st (st' := [.int (nI (2 ^ nt - 1)), .int (x)]) rfl ?_
    refine v_icmp_gt (pc := 9) 16 dX2_hasSet_9 (by decide) (fun c_9 => ?_) (fun c_9 => ?_)
    · skip
      refine v_iconst (pc := 16) (v := 0) dX2_hasSet_16 (by decide) ?_
      refine v_zret (pc := 17) dX2_hasSet_17 rfl rfl ⟨rfl, rfl⟩ (Rt.i ?_)
      first | exact (if_pos (by simp only [okN, hldP, *, not_false_eq_true, not_true_eq_false, and_self, true_and, and_true, true_or, or_true])).symm | exact (if_neg (by simp only [okN, hldP, *, not_false_eq_true, not_true_eq_false, false_and, and_false, or_self, or_false, false_or])).symm
    · skip
      refine v_iconst (pc := 12) (v := 1) dX2_hasSet_12 (by decide) ?_
      refine v_goto (pc := 13) 17 dX2_hasSet_13 (by decide) ?_
      refine v_zret (pc := 17) dX2_hasSet_17 rfl rfl ⟨rfl, rfl⟩ (Rt.i ?_)
      first | exact (if_pos (by simp only [okN, hldP, *, not_false_eq_true, not_true_eq_false, and_self, true_and, and_true, true_or, or_true])).symm | exact (if_neg (by simp only [okN, hldP, *, not_false_eq_true, not_true_eq_false, false_and, and_false, or_self, or_false, false_or])).symm
theorem c_X2_holds (l : Launch) (E : VE) (a0 : Nat) (ao : Nat) (aw : Nat) (an : Nat) (ab : Nat) (av : Nat) (nt : Nat) (pp : Nat) (rl : Nat) (hm : Int32) (sp : Int32) (td : Int32) (dt : Int32) (on : Nat → Int32) (nd : Nat → Int32) (br : Nat → Int32) (k : Nat) (x : Int32) (h_k : k < 8) : Ct l E yX2_holds cX2_holds 3 (Option.some FieldType.boolean) 1 21 0 0 [.ref a0, .int (nI k), .int (x)] [(a0, .inr (2, [.int (nI nt), .int (nI pp), .int (nI rl), .int (hm), .int (sp), .int (td), .int (dt), .ref ao, .ref aw, .ref an, .ref ab, .ref av])), (ao, .inl (E.2.1 1, 8, .inl (on))), (an, .inl (E.2.1 1, 8, .inl (nd))), (ab, .inl (E.2.1 1, 8, .inl (br)))] (Rt (some (.int (if hldP hm (on k) (nd k) (br k) x then 1 else 0))) [(a0, .inr (2, [.int (nI nt), .int (nI pp), .int (nI rl), .int (hm), .int (sp), .int (td), .int (dt), .ref ao, .ref aw, .ref an, .ref ab, .ref av])), (ao, .inl (E.2.1 1, 8, .inl (on))), (an, .inl (E.2.1 1, 8, .inl (nd))), (ab, .inl (E.2.1 1, 8, .inl (br)))]) := by
  refine Ct.of (own := RX2) (nm := "holds") (lv := [(0, .ref a0), (1, .int (nI k)), (2, .int (x))]) (by decide) rfl rfl (Nat.le_of_ble_eq_true rfl) rfl ?_
  refine v_aload_n (pc := 0) 0 dX2_holds_0 rfl rfl ?_
  refine gf_99 (pc := 1) 0 dX2_holds_1 rfl rfl ?_
  refine v_aload_n (pc := 4) 0 dX2_holds_4 rfl rfl ?_
  refine gf_111 (pc := 5) 0 dX2_holds_5 rfl rfl ?_
  refine v_iload_n (pc := 8) 1 dX2_holds_8 rfl rfl ?_
  refine v_ialdN (pc := 9) 1 1 (k) dX2_holds_9 rfl rfl rfl (by omega) (by decide) ?_
  refine v_callBit (pc := 10) (rest := []) [] (by decide) tb_399 tb_58 tb_398 (c_X4_bitOf l E hm (on k)) dX2_holds_10 rfl rfl (Nat.le_of_ble_eq_true rfl) (by decide) (by decide) rfl (Rt.len rfl) (Rt.go ?_)
  refine v_w (ws' := [(a0, .inr (2, [.int (nI nt), .int (nI pp), .int (nI rl), .int (hm), .int (sp), .int (td), .int (dt), .ref ao, .ref aw, .ref an, .ref ab, .ref av])), (ao, .inl (E.2.1 1, 8, .inl (on))), (an, .inl (E.2.1 1, 8, .inl (nd))), (ab, .inl (E.2.1 1, 8, .inl (br)))]) rfl ?_
  refine v_st (st' := [.int (bt1 hm (on k))]) rfl ?_
  refine v_if_ne (pc := 13) 44 dX2_holds_13 (by decide) (fun c_13 => ?_) (fun c_13 => ?_)
  · skip
    refine v_iconst (pc := 44) (v := 0) dX2_holds_44 (by decide) ?_
    refine v_zret (pc := 45) dX2_holds_45 rfl rfl ⟨rfl, rfl⟩ (Rt.i ?_)
    first | exact (if_pos (by simp only [okN, hldP, *, not_false_eq_true, not_true_eq_false, and_self, true_and, and_true, true_or, or_true])).symm | exact (if_neg (by simp only [okN, hldP, *, not_false_eq_true, not_true_eq_false, false_and, and_false, or_self, or_false, false_or])).symm
  · skip
    refine v_aload_n (pc := 16) 0 dX2_holds_16 rfl rfl ?_
    refine gf_117 (pc := 17) 0 dX2_holds_17 rfl rfl ?_
    refine v_iload_n (pc := 20) 1 dX2_holds_20 rfl rfl ?_
    refine v_ialdN (pc := 21) 2 1 (k) dX2_holds_21 rfl rfl rfl (by omega) (by decide) ?_
    refine v_iload_n (pc := 22) 2 dX2_holds_22 rfl rfl ?_
    refine v_iconst (pc := 23) (v := -1) dX2_holds_23 (by decide) ?_
    refine v_ixor (pc := 24) dX2_holds_24 ?_
    refine v_iand (pc := 25) dX2_holds_25 ?_
    refine v_if_ne (pc := 26) 44 dX2_holds_26 (by decide) (fun c_26 => ?_) (fun c_26 => ?_)
    · skip
      refine v_iconst (pc := 44) (v := 0) dX2_holds_44 (by decide) ?_
      refine v_zret (pc := 45) dX2_holds_45 rfl rfl ⟨rfl, rfl⟩ (Rt.i ?_)
      first | exact (if_pos (by simp only [okN, hldP, *, not_false_eq_true, not_true_eq_false, and_self, true_and, and_true, true_or, or_true])).symm | exact (if_neg (by simp only [okN, hldP, *, not_false_eq_true, not_true_eq_false, false_and, and_false, or_self, or_false, false_or])).symm
    · skip
      refine v_aload_n (pc := 29) 0 dX2_holds_29 rfl rfl ?_
      refine gf_120 (pc := 30) 0 dX2_holds_30 rfl rfl ?_
      refine v_iload_n (pc := 33) 1 dX2_holds_33 rfl rfl ?_
      refine v_ialdN (pc := 34) 3 1 (k) dX2_holds_34 rfl rfl rfl (by omega) (by decide) ?_
      refine v_iload_n (pc := 35) 2 dX2_holds_35 rfl rfl ?_
      refine v_iand (pc := 36) dX2_holds_36 ?_
      refine v_if_ne (pc := 37) 44 dX2_holds_37 (by decide) (fun c_37 => ?_) (fun c_37 => ?_)
      · skip
        refine v_iconst (pc := 44) (v := 0) dX2_holds_44 (by decide) ?_
        refine v_zret (pc := 45) dX2_holds_45 rfl rfl ⟨rfl, rfl⟩ (Rt.i ?_)
        first | exact (if_pos (by simp only [okN, hldP, *, not_false_eq_true, not_true_eq_false, and_self, true_and, and_true, true_or, or_true])).symm | exact (if_neg (by simp only [okN, hldP, *, not_false_eq_true, not_true_eq_false, false_and, and_false, or_self, or_false, false_or])).symm
      · skip
        refine v_iconst (pc := 40) (v := 1) dX2_holds_40 (by decide) ?_
        refine v_goto (pc := 41) 45 dX2_holds_41 (by decide) ?_
        refine v_zret (pc := 45) dX2_holds_45 rfl rfl ⟨rfl, rfl⟩ (Rt.i ?_)
        first | exact (if_pos (by simp only [okN, hldP, *, not_false_eq_true, not_true_eq_false, and_self, true_and, and_true, true_or, or_true])).symm | exact (if_neg (by simp only [okN, hldP, *, not_false_eq_true, not_true_eq_false, false_and, and_false, or_self, or_false, false_or])).symm
theorem c_X2_holding (l : Launch) (E : VE) (a0 : Nat) (ao : Nat) (aw : Nat) (an : Nat) (ab : Nat) (av : Nat) (nt : Nat) (pp : Nat) (rl : Nat) (hm : Int32) (sp : Int32) (td : Int32) (dt : Int32) (on : Nat → Int32) (nd : Nat → Int32) (br : Nat → Int32) (x : Int32) (h_rl : rl ≤ 8) : Ct l E yX2_holding cX2_holding 4 (Option.some FieldType.int) 2 43 0 0 [.ref a0, .int (x)] [(a0, .inr (2, [.int (nI nt), .int (nI pp), .int (nI rl), .int (hm), .int (sp), .int (td), .int (dt), .ref ao, .ref aw, .ref an, .ref ab, .ref av])), (ao, .inl (E.2.1 1, 8, .inl (on))), (an, .inl (E.2.1 1, 8, .inl (nd))), (ab, .inl (E.2.1 1, 8, .inl (br)))] (Rt (some (.int (orF (hp hm on nd br x) (fun k => nI k) rl))) [(a0, .inr (2, [.int (nI nt), .int (nI pp), .int (nI rl), .int (hm), .int (sp), .int (td), .int (dt), .ref ao, .ref aw, .ref an, .ref ab, .ref av])), (ao, .inl (E.2.1 1, 8, .inl (on))), (an, .inl (E.2.1 1, 8, .inl (nd))), (ab, .inl (E.2.1 1, 8, .inl (br)))]) := by
  refine Ct.of (own := RX2) (nm := "holding") (lv := [(0, .ref a0), (1, .int (x))]) (by decide) rfl rfl (Nat.le_of_ble_eq_true rfl) rfl ?_
  refine v_iconst (pc := 0) (v := 0) dX2_holding_0 (by decide) ?_
  refine v_istore_n (pc := 1) (lv' := [(2, .int (0)), (0, .ref a0), (1, .int (x))]) dX2_holding_1 rfl (by decide) rfl ?_
  refine v_iconst (pc := 2) (v := 0) dX2_holding_2 (by decide) ?_
  refine v_istore_n (pc := 3) (lv' := [(3, .int (0)), (2, .int (0)), (0, .ref a0), (1, .int (x))]) dX2_holding_3 rfl (by decide) rfl ?_
  have loop_4 : ∀ (D_4 : Nat) (i : Nat) (acc : Int32), rl - i < D_4 → (i ≤ rl) → (acc = orF (hp hm on nd br x) (fun k => nI k) i) → V l E RX2 cX2_holding 4 (Option.some FieldType.int) "holding" ({ frames := 2, cells := 0, slots := 0, locals := 43 }) [(a0, .inr (2, [.int (nI nt), .int (nI pp), .int (nI rl), .int (hm), .int (sp), .int (td), .int (dt), .ref ao, .ref aw, .ref an, .ref ab, .ref av])), (ao, .inl (E.2.1 1, 8, .inl (on))), (an, .inl (E.2.1 1, 8, .inl (nd))), (ab, .inl (E.2.1 1, 8, .inl (br)))] 0 0 (Rt (some (.int (orF (hp hm on nd br x) (fun k => nI k) rl))) [(a0, .inr (2, [.int (nI nt), .int (nI pp), .int (nI rl), .int (hm), .int (sp), .int (td), .int (dt), .ref ao, .ref aw, .ref an, .ref ab, .ref av])), (ao, .inl (E.2.1 1, 8, .inl (on))), (an, .inl (E.2.1 1, 8, .inl (nd))), (ab, .inl (E.2.1 1, 8, .inl (br)))]) 0 0 4 [(3, .int (nI i)), (2, .int (acc)), (0, .ref a0), (1, .int (x))] [] [(a0, .inr (2, [.int (nI nt), .int (nI pp), .int (nI rl), .int (hm), .int (sp), .int (td), .int (dt), .ref ao, .ref aw, .ref an, .ref ab, .ref av])), (ao, .inl (E.2.1 1, 8, .inl (on))), (an, .inl (E.2.1 1, 8, .inl (nd))), (ab, .inl (E.2.1 1, 8, .inl (br)))] := by
    intro D_4
    induction D_4 with
    | zero => intro i acc h; exact absurd h (Nat.not_lt_zero _)
    | succ D_4 ih_4 =>
      intro i acc hmu_4 h_4_0 h_4_1
      refine v_iload_n (pc := 4) 0 dX2_holding_4 rfl rfl ?_
      refine v_aload_n (pc := 5) 2 dX2_holding_5 rfl rfl ?_
      refine gf_94 (pc := 6) 0 dX2_holding_6 rfl rfl ?_
      refine v_cmpN_ge (pc := 9) (a := i) (b := rl) 33 dX2_holding_9 (by decide) (by omega) (by omega) (fun c_9 => ?_) (fun c_9 => ?_)
      · skip
        refine v_iload_n (pc := 33) 1 dX2_holding_33 rfl rfl ?_
        refine v_iret (pc := 34) dX2_holding_34 rfl ⟨rfl, rfl⟩ (Rt.i ?_)
        obtain rfl : i = rl := by omega
        assumption
      · skip
        refine v_aload_n (pc := 12) 2 dX2_holding_12 rfl rfl ?_
        refine v_iload_n (pc := 13) 0 dX2_holding_13 rfl rfl ?_
        refine v_iload_n (pc := 14) 3 dX2_holding_14 rfl rfl ?_
        refine v_callV (pc := 15) (rest := []) [0, 1, 2, 3] 0 lk_522 (c_X2_holds l E a0 ao aw an ab av nt pp rl hm sp td dt on nd br i x (by omega)) dX2_holding_15 rfl rfl (Nat.le_of_ble_eq_true rfl) (by decide) rfl rfl rfl (by decide) rfl (Rt.len rfl) (Rt.go ?_)
        refine v_w (ws' := [(a0, .inr (2, [.int (nI nt), .int (nI pp), .int (nI rl), .int (hm), .int (sp), .int (td), .int (dt), .ref ao, .ref aw, .ref an, .ref ab, .ref av])), (ao, .inl (E.2.1 1, 8, .inl (on))), (an, .inl (E.2.1 1, 8, .inl (nd))), (ab, .inl (E.2.1 1, 8, .inl (br)))]) rfl ?_
        refine v_st (st' := [.int (if hldP hm (on i) (nd i) (br i) x then 1 else 0)]) rfl ?_
        refine v_ifB_eq (pc := 18) 27 dX2_holding_18 (by decide) (fun c_18 => ?_) (fun c_18 => ?_)
        · skip
          refine v_iinc (pc := 27) (v := nI (i + 1)) (lv' := [(3, .int (nI (i + 1))), (2, .int (acc)), (0, .ref a0), (1, .int (x))]) 0 dX2_holding_27 rfl (nI_inc (i) 1) (by decide) rfl ?_
          refine v_goto (pc := 30) 4 dX2_holding_30 (by decide) ?_
          refine v_lv (lv' := [(3, .int (nI (i + 1))), (2, .int (acc)), (0, .ref a0), (1, .int (x))]) [0, 1, 2, 3] rfl ?_
          refine ih_4 (i + 1) acc (by omega) ?_ ?_
          · omega
          · simp only [orF, hp, decide_eq_true_eq]; first | rw [if_pos c_18, h_4_1] | rw [if_neg c_18, h_4_1]
        · skip
          refine v_iload_n (pc := 21) 1 dX2_holding_21 rfl rfl ?_
          refine v_iconst (pc := 22) (v := 1) dX2_holding_22 (by decide) ?_
          refine v_iload_n (pc := 23) 0 dX2_holding_23 rfl rfl ?_
          refine v_ishl (pc := 24) dX2_holding_24 ?_
          refine v_ior (pc := 25) dX2_holding_25 ?_
          refine v_istore_n (pc := 26) (lv' := [(2, .int ((acc) ||| ((1 : Int32) <<< ((nI i) &&& 31)))), (3, .int (nI i)), (0, .ref a0), (1, .int (x))]) dX2_holding_26 rfl (by decide) rfl ?_
          refine v_iinc (pc := 27) (v := nI (i + 1)) (lv' := [(3, .int (nI (i + 1))), (2, .int ((acc) ||| ((1 : Int32) <<< ((nI i) &&& 31)))), (0, .ref a0), (1, .int (x))]) 1 dX2_holding_27 rfl (nI_inc (i) 1) (by decide) rfl ?_
          refine v_goto (pc := 30) 4 dX2_holding_30 (by decide) ?_
          refine v_lv (lv' := [(3, .int (nI (i + 1))), (2, .int ((acc) ||| ((1 : Int32) <<< ((nI i) &&& 31)))), (0, .ref a0), (1, .int (x))]) [0, 1, 2, 3] rfl ?_
          refine ih_4 (i + 1) ((acc) ||| ((1 : Int32) <<< ((nI i) &&& 31))) (by omega) ?_ ?_
          · omega
          · simp only [orF, hp, decide_eq_true_eq]; first | rw [if_pos c_18, h_4_1] | rw [if_neg c_18, h_4_1]
  refine v_lv (lv' := [(3, .int (nI 0)), (2, .int (0)), (0, .ref a0), (1, .int (x))]) [0, 1, 2, 3] rfl ?_
  refine loop_4 ((rl - 0) + 1) 0 0 (Nat.lt_succ_self _) ?_ ?_
  · omega
  · rfl
theorem c_X2_outcome (l : Launch) (E : VE) (a0 : Nat) (ao : Nat) (aw : Nat) (an : Nat) (ab : Nat) (av : Nat) (nt : Nat) (pp : Nat) (rl : Nat) (hm : Int32) (sp : Int32) (td : Int32) (dt : Int32) (on : Nat → Int32) (wr : Nat → Int32) (nd : Nat → Int32) (br : Nat → Int32) (x : Int32) (h_rl : rl ≤ 8) : Ct l E yX2_outcome cX2_outcome 4 (Option.some FieldType.int) 2 43 0 0 [.ref a0, .int (x)] [(a0, .inr (2, [.int (nI nt), .int (nI pp), .int (nI rl), .int (hm), .int (sp), .int (td), .int (dt), .ref ao, .ref aw, .ref an, .ref ab, .ref av])), (ao, .inl (E.2.1 1, 8, .inl (on))), (aw, .inl (E.2.1 1, 8, .inl (wr))), (an, .inl (E.2.1 1, 8, .inl (nd))), (ab, .inl (E.2.1 1, 8, .inl (br)))] (Rt (some (.int (outc rl hm sp on wr nd br x))) [(a0, .inr (2, [.int (nI nt), .int (nI pp), .int (nI rl), .int (hm), .int (sp), .int (td), .int (dt), .ref ao, .ref aw, .ref an, .ref ab, .ref av])), (ao, .inl (E.2.1 1, 8, .inl (on))), (aw, .inl (E.2.1 1, 8, .inl (wr))), (an, .inl (E.2.1 1, 8, .inl (nd))), (ab, .inl (E.2.1 1, 8, .inl (br)))]) := by
  refine Ct.of (own := RX2) (nm := "outcome") (lv := [(0, .ref a0), (1, .int (x))]) (by decide) rfl rfl (Nat.le_of_ble_eq_true rfl) rfl ?_
  refine v_iconst (pc := 0) (v := 0) dX2_outcome_0 (by decide) ?_
  refine v_istore_n (pc := 1) (lv' := [(2, .int (0)), (0, .ref a0), (1, .int (x))]) dX2_outcome_1 rfl (by decide) rfl ?_
  refine v_iconst (pc := 2) (v := 0) dX2_outcome_2 (by decide) ?_
  refine v_istore_n (pc := 3) (lv' := [(3, .int (0)), (2, .int (0)), (0, .ref a0), (1, .int (x))]) dX2_outcome_3 rfl (by decide) rfl ?_
  have loop_4 : ∀ (D_4 : Nat) (i : Nat) (acc : Int32), rl - i < D_4 → (i ≤ rl) → (acc = orF (hp hm on nd br x) wr i) → V l E RX2 cX2_outcome 4 (Option.some FieldType.int) "outcome" ({ frames := 2, cells := 0, slots := 0, locals := 43 }) [(a0, .inr (2, [.int (nI nt), .int (nI pp), .int (nI rl), .int (hm), .int (sp), .int (td), .int (dt), .ref ao, .ref aw, .ref an, .ref ab, .ref av])), (ao, .inl (E.2.1 1, 8, .inl (on))), (aw, .inl (E.2.1 1, 8, .inl (wr))), (an, .inl (E.2.1 1, 8, .inl (nd))), (ab, .inl (E.2.1 1, 8, .inl (br)))] 0 0 (Rt (some (.int (outc rl hm sp on wr nd br x))) [(a0, .inr (2, [.int (nI nt), .int (nI pp), .int (nI rl), .int (hm), .int (sp), .int (td), .int (dt), .ref ao, .ref aw, .ref an, .ref ab, .ref av])), (ao, .inl (E.2.1 1, 8, .inl (on))), (aw, .inl (E.2.1 1, 8, .inl (wr))), (an, .inl (E.2.1 1, 8, .inl (nd))), (ab, .inl (E.2.1 1, 8, .inl (br)))]) 0 0 4 [(3, .int (nI i)), (2, .int (acc)), (0, .ref a0), (1, .int (x))] [] [(a0, .inr (2, [.int (nI nt), .int (nI pp), .int (nI rl), .int (hm), .int (sp), .int (td), .int (dt), .ref ao, .ref aw, .ref an, .ref ab, .ref av])), (ao, .inl (E.2.1 1, 8, .inl (on))), (aw, .inl (E.2.1 1, 8, .inl (wr))), (an, .inl (E.2.1 1, 8, .inl (nd))), (ab, .inl (E.2.1 1, 8, .inl (br)))] := by
    intro D_4
    induction D_4 with
    | zero => intro i acc h; exact absurd h (Nat.not_lt_zero _)
    | succ D_4 ih_4 =>
      intro i acc hmu_4 h_4_0 h_4_1
      refine v_iload_n (pc := 4) 0 dX2_outcome_4 rfl rfl ?_
      refine v_aload_n (pc := 5) 2 dX2_outcome_5 rfl rfl ?_
      refine gf_94 (pc := 6) 0 dX2_outcome_6 rfl rfl ?_
      refine v_cmpN_ge (pc := 9) (a := i) (b := rl) 38 dX2_outcome_9 (by decide) (by omega) (by omega) (fun c_9 => ?_) (fun c_9 => ?_)
      · skip
        refine v_iload_n (pc := 38) 1 dX2_outcome_38 rfl rfl ?_
        refine v_aload_n (pc := 39) 2 dX2_outcome_39 rfl rfl ?_
        refine gf_103 (pc := 40) 0 dX2_outcome_40 rfl rfl ?_
        refine v_iconst (pc := 43) (v := -1) dX2_outcome_43 (by decide) ?_
        refine v_ixor (pc := 44) dX2_outcome_44 ?_
        refine v_iand (pc := 45) dX2_outcome_45 ?_
        refine v_iret (pc := 46) dX2_outcome_46 rfl ⟨rfl, rfl⟩ (Rt.i ?_)
        obtain rfl : i = rl := by omega
        rw [h_4_1]; rfl
      · skip
        refine v_aload_n (pc := 12) 2 dX2_outcome_12 rfl rfl ?_
        refine v_iload_n (pc := 13) 0 dX2_outcome_13 rfl rfl ?_
        refine v_iload_n (pc := 14) 3 dX2_outcome_14 rfl rfl ?_
        refine v_callV (pc := 15) (rest := []) [0, 1, 3, 4] 0 lk_522 (c_X2_holds l E a0 ao aw an ab av nt pp rl hm sp td dt on nd br i x (by omega)) dX2_outcome_15 rfl rfl (Nat.le_of_ble_eq_true rfl) (by decide) rfl rfl rfl (by decide) rfl (Rt.len rfl) (Rt.go ?_)
        refine v_w (ws' := [(a0, .inr (2, [.int (nI nt), .int (nI pp), .int (nI rl), .int (hm), .int (sp), .int (td), .int (dt), .ref ao, .ref aw, .ref an, .ref ab, .ref av])), (ao, .inl (E.2.1 1, 8, .inl (on))), (aw, .inl (E.2.1 1, 8, .inl (wr))), (an, .inl (E.2.1 1, 8, .inl (nd))), (ab, .inl (E.2.1 1, 8, .inl (br)))]) rfl ?_
        refine v_st (st' := [.int (if hldP hm (on i) (nd i) (br i) x then 1 else 0)]) rfl ?_
        refine v_ifB_eq (pc := 18) 32 dX2_outcome_18 (by decide) (fun c_18 => ?_) (fun c_18 => ?_)
        · skip
          refine v_iinc (pc := 32) (v := nI (i + 1)) (lv' := [(3, .int (nI (i + 1))), (2, .int (acc)), (0, .ref a0), (1, .int (x))]) 0 dX2_outcome_32 rfl (nI_inc (i) 1) (by decide) rfl ?_
          refine v_goto (pc := 35) 4 dX2_outcome_35 (by decide) ?_
          refine v_lv (lv' := [(3, .int (nI (i + 1))), (2, .int (acc)), (0, .ref a0), (1, .int (x))]) [0, 1, 2, 3] rfl ?_
          refine ih_4 (i + 1) acc (by omega) ?_ ?_
          · omega
          · simp only [orF, hp, decide_eq_true_eq]; first | rw [if_pos c_18, h_4_1] | rw [if_neg c_18, h_4_1]
        · skip
          refine v_iload_n (pc := 21) 1 dX2_outcome_21 rfl rfl ?_
          refine v_iconst (pc := 22) (v := 1) dX2_outcome_22 (by decide) ?_
          refine v_aload_n (pc := 23) 2 dX2_outcome_23 rfl rfl ?_
          refine gf_114 (pc := 24) 0 dX2_outcome_24 rfl rfl ?_
          refine v_iload_n (pc := 27) 0 dX2_outcome_27 rfl rfl ?_
          refine v_ialdN (pc := 28) 2 1 (i) dX2_outcome_28 rfl rfl rfl (by omega) (by decide) ?_
          refine v_ishl (pc := 29) dX2_outcome_29 ?_
          refine v_ior (pc := 30) dX2_outcome_30 ?_
          refine v_istore_n (pc := 31) (lv' := [(2, .int ((acc) ||| ((1 : Int32) <<< ((wr i) &&& 31)))), (3, .int (nI i)), (0, .ref a0), (1, .int (x))]) dX2_outcome_31 rfl (by decide) rfl ?_
          refine v_iinc (pc := 32) (v := nI (i + 1)) (lv' := [(3, .int (nI (i + 1))), (2, .int ((acc) ||| ((1 : Int32) <<< ((wr i) &&& 31)))), (0, .ref a0), (1, .int (x))]) 1 dX2_outcome_32 rfl (nI_inc (i) 1) (by decide) rfl ?_
          refine v_goto (pc := 35) 4 dX2_outcome_35 (by decide) ?_
          refine v_lv (lv' := [(3, .int (nI (i + 1))), (2, .int ((acc) ||| ((1 : Int32) <<< ((wr i) &&& 31)))), (0, .ref a0), (1, .int (x))]) [0, 1, 2, 3] rfl ?_
          refine ih_4 (i + 1) ((acc) ||| ((1 : Int32) <<< ((wr i) &&& 31))) (by omega) ?_ ?_
          · omega
          · simp only [orF, hp, decide_eq_true_eq]; first | rw [if_pos c_18, h_4_1] | rw [if_neg c_18, h_4_1]
  refine v_lv (lv' := [(3, .int (nI 0)), (2, .int (0)), (0, .ref a0), (1, .int (x))]) [0, 1, 2, 3] rfl ?_
  refine loop_4 ((rl - 0) + 1) 0 0 (Nat.lt_succ_self _) ?_ ?_
  · omega
  · rfl
theorem c_X2_writers (l : Launch) (E : VE) (a0 : Nat) (ao : Nat) (aw : Nat) (an : Nat) (ab : Nat) (av : Nat) (nt : Nat) (pp : Nat) (rl : Nat) (hm : Int32) (sp : Int32) (td : Int32) (dt : Int32) (on : Nat → Int32) (wr : Nat → Int32) (nd : Nat → Int32) (br : Nat → Int32) (x : Int32) (n : Int32) (h_rl : rl ≤ 8) : Ct l E yX2_writers cX2_writers 5 (Option.some FieldType.int) 2 43 0 0 [.ref a0, .int (x), .int (n)] [(a0, .inr (2, [.int (nI nt), .int (nI pp), .int (nI rl), .int (hm), .int (sp), .int (td), .int (dt), .ref ao, .ref aw, .ref an, .ref ab, .ref av])), (ao, .inl (E.2.1 1, 8, .inl (on))), (aw, .inl (E.2.1 1, 8, .inl (wr))), (an, .inl (E.2.1 1, 8, .inl (nd))), (ab, .inl (E.2.1 1, 8, .inl (br)))] (Rt (some (.int (wrts rl hm on wr nd br x n))) [(a0, .inr (2, [.int (nI nt), .int (nI pp), .int (nI rl), .int (hm), .int (sp), .int (td), .int (dt), .ref ao, .ref aw, .ref an, .ref ab, .ref av])), (ao, .inl (E.2.1 1, 8, .inl (on))), (aw, .inl (E.2.1 1, 8, .inl (wr))), (an, .inl (E.2.1 1, 8, .inl (nd))), (ab, .inl (E.2.1 1, 8, .inl (br)))]) := by
  refine Ct.of (own := RX2) (nm := "writers") (lv := [(0, .ref a0), (1, .int (x)), (2, .int (n))]) (by decide) rfl rfl (Nat.le_of_ble_eq_true rfl) rfl ?_
  refine v_iconst (pc := 0) (v := 0) dX2_writers_0 (by decide) ?_
  refine v_istore_n (pc := 1) (lv' := [(3, .int (0)), (0, .ref a0), (1, .int (x)), (2, .int (n))]) dX2_writers_1 rfl (by decide) rfl ?_
  refine v_iconst (pc := 2) (v := 0) dX2_writers_2 (by decide) ?_
  refine v_istore (pc := 3) (lv' := [(4, .int (0)), (3, .int (0)), (0, .ref a0), (1, .int (x)), (2, .int (n))]) dX2_writers_3 (by decide) rfl ?_
  have loop_5 : ∀ (D_5 : Nat) (i : Nat) (acc : Int32), rl - i < D_5 → (i ≤ rl) → (acc = orF (fun k => decide (wr k = n) && hp hm on nd br x k) on i) → V l E RX2 cX2_writers 5 (Option.some FieldType.int) "writers" ({ frames := 2, cells := 0, slots := 0, locals := 43 }) [(a0, .inr (2, [.int (nI nt), .int (nI pp), .int (nI rl), .int (hm), .int (sp), .int (td), .int (dt), .ref ao, .ref aw, .ref an, .ref ab, .ref av])), (ao, .inl (E.2.1 1, 8, .inl (on))), (aw, .inl (E.2.1 1, 8, .inl (wr))), (an, .inl (E.2.1 1, 8, .inl (nd))), (ab, .inl (E.2.1 1, 8, .inl (br)))] 0 0 (Rt (some (.int (wrts rl hm on wr nd br x n))) [(a0, .inr (2, [.int (nI nt), .int (nI pp), .int (nI rl), .int (hm), .int (sp), .int (td), .int (dt), .ref ao, .ref aw, .ref an, .ref ab, .ref av])), (ao, .inl (E.2.1 1, 8, .inl (on))), (aw, .inl (E.2.1 1, 8, .inl (wr))), (an, .inl (E.2.1 1, 8, .inl (nd))), (ab, .inl (E.2.1 1, 8, .inl (br)))]) 0 0 5 [(4, .int (nI i)), (3, .int (acc)), (0, .ref a0), (1, .int (x)), (2, .int (n))] [] [(a0, .inr (2, [.int (nI nt), .int (nI pp), .int (nI rl), .int (hm), .int (sp), .int (td), .int (dt), .ref ao, .ref aw, .ref an, .ref ab, .ref av])), (ao, .inl (E.2.1 1, 8, .inl (on))), (aw, .inl (E.2.1 1, 8, .inl (wr))), (an, .inl (E.2.1 1, 8, .inl (nd))), (ab, .inl (E.2.1 1, 8, .inl (br)))] := by
    intro D_5
    induction D_5 with
    | zero => intro i acc h; exact absurd h (Nat.not_lt_zero _)
    | succ D_5 ih_5 =>
      intro i acc hmu_5 h_5_0 h_5_1
      refine v_iload (pc := 5) 0 dX2_writers_5 rfl ?_
      refine v_aload_n (pc := 7) 2 dX2_writers_7 rfl rfl ?_
      refine gf_94 (pc := 8) 0 dX2_writers_8 rfl rfl ?_
      refine v_cmpN_ge (pc := 11) (a := i) (b := rl) 53 dX2_writers_11 (by decide) (by omega) (by omega) (fun c_11 => ?_) (fun c_11 => ?_)
      · skip
        refine v_iload_n (pc := 53) 1 dX2_writers_53 rfl rfl ?_
        refine v_iret (pc := 54) dX2_writers_54 rfl ⟨rfl, rfl⟩ (Rt.i ?_)
        obtain rfl : i = rl := by omega
        rw [h_5_1]; rfl
      · skip
        refine v_aload_n (pc := 14) 2 dX2_writers_14 rfl rfl ?_
        refine gf_114 (pc := 15) 0 dX2_writers_15 rfl rfl ?_
        refine v_iload (pc := 18) 0 dX2_writers_18 rfl ?_
        refine v_ialdN (pc := 20) 2 1 (i) dX2_writers_20 rfl rfl rfl (by omega) (by decide) ?_
        refine v_iload_n (pc := 21) 4 dX2_writers_21 rfl rfl ?_
        refine v_icmp_ne (pc := 22) 47 dX2_writers_22 (by decide) (fun c_22 => ?_) (fun c_22 => ?_)
        · skip
          refine v_iinc (pc := 47) (v := nI (i + 1)) (lv' := [(4, .int (nI (i + 1))), (3, .int (acc)), (0, .ref a0), (1, .int (x)), (2, .int (n))]) 0 dX2_writers_47 rfl (nI_inc (i) 1) (by decide) rfl ?_
          refine v_goto (pc := 50) 5 dX2_writers_50 (by decide) ?_
          refine v_lv (lv' := [(4, .int (nI (i + 1))), (3, .int (acc)), (0, .ref a0), (1, .int (x)), (2, .int (n))]) [0, 1, 2, 3, 4] rfl ?_
          refine ih_5 (i + 1) acc (by omega) ?_ ?_
          · omega
          · simp only [orF, hp, decide_eq_true_eq, Bool.and_eq_true]; rw [if_neg (fun q => c_22 q.1), h_5_1] <;> rfl
        · skip
          refine v_aload_n (pc := 25) 2 dX2_writers_25 rfl rfl ?_
          refine v_iload (pc := 26) 0 dX2_writers_26 rfl ?_
          refine v_iload_n (pc := 28) 3 dX2_writers_28 rfl rfl ?_
          refine v_callV (pc := 29) (rest := []) [0, 1, 3, 4] 0 lk_522 (c_X2_holds l E a0 ao aw an ab av nt pp rl hm sp td dt on nd br i x (by omega)) dX2_writers_29 rfl rfl (Nat.le_of_ble_eq_true rfl) (by decide) rfl rfl rfl (by decide) rfl (Rt.len rfl) (Rt.go ?_)
          refine v_w (ws' := [(a0, .inr (2, [.int (nI nt), .int (nI pp), .int (nI rl), .int (hm), .int (sp), .int (td), .int (dt), .ref ao, .ref aw, .ref an, .ref ab, .ref av])), (ao, .inl (E.2.1 1, 8, .inl (on))), (aw, .inl (E.2.1 1, 8, .inl (wr))), (an, .inl (E.2.1 1, 8, .inl (nd))), (ab, .inl (E.2.1 1, 8, .inl (br)))]) rfl ?_
          refine v_st (st' := [.int (if hldP hm (on i) (nd i) (br i) x then 1 else 0)]) rfl ?_
          refine v_ifB_eq (pc := 32) 47 dX2_writers_32 (by decide) (fun c_32 => ?_) (fun c_32 => ?_)
          · skip
            refine v_iinc (pc := 47) (v := nI (i + 1)) (lv' := [(4, .int (nI (i + 1))), (3, .int (acc)), (0, .ref a0), (1, .int (x)), (2, .int (n))]) 0 dX2_writers_47 rfl (nI_inc (i) 1) (by decide) rfl ?_
            refine v_goto (pc := 50) 5 dX2_writers_50 (by decide) ?_
            refine v_lv (lv' := [(4, .int (nI (i + 1))), (3, .int (acc)), (0, .ref a0), (1, .int (x)), (2, .int (n))]) [0, 1, 2, 3, 4] rfl ?_
            refine ih_5 (i + 1) acc (by omega) ?_ ?_
            · omega
            · simp only [orF, hp, decide_eq_true_eq, Bool.and_eq_true]; rw [if_neg (fun q => c_32 q.2), h_5_1] <;> rfl
          · skip
            refine v_iload_n (pc := 35) 1 dX2_writers_35 rfl rfl ?_
            refine v_iconst (pc := 36) (v := 1) dX2_writers_36 (by decide) ?_
            refine v_aload_n (pc := 37) 2 dX2_writers_37 rfl rfl ?_
            refine gf_111 (pc := 38) 0 dX2_writers_38 rfl rfl ?_
            refine v_iload (pc := 41) 0 dX2_writers_41 rfl ?_
            refine v_ialdN (pc := 43) 1 1 (i) dX2_writers_43 rfl rfl rfl (by omega) (by decide) ?_
            refine v_ishl (pc := 44) dX2_writers_44 ?_
            refine v_ior (pc := 45) dX2_writers_45 ?_
            refine v_istore_n (pc := 46) (lv' := [(3, .int ((acc) ||| ((1 : Int32) <<< ((on i) &&& 31)))), (4, .int (nI i)), (0, .ref a0), (1, .int (x)), (2, .int (n))]) dX2_writers_46 rfl (by decide) rfl ?_
            refine v_iinc (pc := 47) (v := nI (i + 1)) (lv' := [(4, .int (nI (i + 1))), (3, .int ((acc) ||| ((1 : Int32) <<< ((on i) &&& 31)))), (0, .ref a0), (1, .int (x)), (2, .int (n))]) 1 dX2_writers_47 rfl (nI_inc (i) 1) (by decide) rfl ?_
            refine v_goto (pc := 50) 5 dX2_writers_50 (by decide) ?_
            refine v_lv (lv' := [(4, .int (nI (i + 1))), (3, .int ((acc) ||| ((1 : Int32) <<< ((on i) &&& 31)))), (0, .ref a0), (1, .int (x)), (2, .int (n))]) [0, 1, 2, 3, 4] rfl ?_
            refine ih_5 (i + 1) ((acc) ||| ((1 : Int32) <<< ((on i) &&& 31))) (by omega) ?_ ?_
            · omega
            · simp only [orF, hp, decide_eq_true_eq, Bool.and_eq_true]; rw [if_pos ⟨c_22, c_32⟩, h_5_1] <;> rfl
  refine v_lv (lv' := [(4, .int (nI 0)), (3, .int (0)), (0, .ref a0), (1, .int (x)), (2, .int (n))]) [0, 1, 2, 3, 4] rfl ?_
  refine loop_5 ((rl - 0) + 1) 0 0 (Nat.lt_succ_self _) ?_ ?_
  · omega
  · rfl
theorem c_X2_sumOfWorths (l : Launch) (E : VE) (a0 : Nat) (ao : Nat) (aw : Nat) (an : Nat) (ab : Nat) (av : Nat) (nt : Nat) (pp : Nat) (rl : Nat) (hm : Int32) (sp : Int32) (td : Int32) (dt : Int32) (wo : Nat → Int32) (x : Int32) (h_nt : nt ≤ 6) : Ct l E yX2_sumOfWorths cX2_sumOfWorths 4 (Option.some FieldType.int) 1 21 0 0 [.ref a0, .int (x)] [(a0, .inr (2, [.int (nI nt), .int (nI pp), .int (nI rl), .int (hm), .int (sp), .int (td), .int (dt), .ref ao, .ref aw, .ref an, .ref ab, .ref av])), (av, .inl (E.2.1 1, 6, .inl (wo)))] (Rt (some (.int (sumW wo x nt))) [(a0, .inr (2, [.int (nI nt), .int (nI pp), .int (nI rl), .int (hm), .int (sp), .int (td), .int (dt), .ref ao, .ref aw, .ref an, .ref ab, .ref av])), (av, .inl (E.2.1 1, 6, .inl (wo)))]) := by
  refine Ct.of (own := RX2) (nm := "sumOfWorths") (lv := [(0, .ref a0), (1, .int (x))]) (by decide) rfl rfl (Nat.le_of_ble_eq_true rfl) rfl ?_
  refine v_iconst (pc := 0) (v := 0) dX2_sumOfWorths_0 (by decide) ?_
  refine v_istore_n (pc := 1) (lv' := [(2, .int (0)), (0, .ref a0), (1, .int (x))]) dX2_sumOfWorths_1 rfl (by decide) rfl ?_
  refine v_iconst (pc := 2) (v := 0) dX2_sumOfWorths_2 (by decide) ?_
  refine v_istore_n (pc := 3) (lv' := [(3, .int (0)), (2, .int (0)), (0, .ref a0), (1, .int (x))]) dX2_sumOfWorths_3 rfl (by decide) rfl ?_
  have loop_4 : ∀ (D_4 : Nat) (i : Nat) (acc : Int32), nt - i < D_4 → (i ≤ nt) → (acc = sumW wo x i) → V l E RX2 cX2_sumOfWorths 4 (Option.some FieldType.int) "sumOfWorths" ({ frames := 1, cells := 0, slots := 0, locals := 21 }) [(a0, .inr (2, [.int (nI nt), .int (nI pp), .int (nI rl), .int (hm), .int (sp), .int (td), .int (dt), .ref ao, .ref aw, .ref an, .ref ab, .ref av])), (av, .inl (E.2.1 1, 6, .inl (wo)))] 0 0 (Rt (some (.int (sumW wo x nt))) [(a0, .inr (2, [.int (nI nt), .int (nI pp), .int (nI rl), .int (hm), .int (sp), .int (td), .int (dt), .ref ao, .ref aw, .ref an, .ref ab, .ref av])), (av, .inl (E.2.1 1, 6, .inl (wo)))]) 0 0 4 [(3, .int (nI i)), (2, .int (acc)), (0, .ref a0), (1, .int (x))] [] [(a0, .inr (2, [.int (nI nt), .int (nI pp), .int (nI rl), .int (hm), .int (sp), .int (td), .int (dt), .ref ao, .ref aw, .ref an, .ref ab, .ref av])), (av, .inl (E.2.1 1, 6, .inl (wo)))] := by
    intro D_4
    induction D_4 with
    | zero => intro i acc h; exact absurd h (Nat.not_lt_zero _)
    | succ D_4 ih_4 =>
      intro i acc hmu_4 h_4_0 h_4_1
      refine v_iload_n (pc := 4) 0 dX2_sumOfWorths_4 rfl rfl ?_
      refine v_aload_n (pc := 5) 2 dX2_sumOfWorths_5 rfl rfl ?_
      refine gf_87 (pc := 6) 0 dX2_sumOfWorths_6 rfl rfl ?_
      refine v_cmpN_ge (pc := 9) (a := i) (b := nt) 36 dX2_sumOfWorths_9 (by decide) (by omega) (by omega) (fun c_9 => ?_) (fun c_9 => ?_)
      · skip
        refine v_iload_n (pc := 36) 1 dX2_sumOfWorths_36 rfl rfl ?_
        refine v_iret (pc := 37) dX2_sumOfWorths_37 rfl ⟨rfl, rfl⟩ (Rt.i ?_)
        obtain rfl : i = nt := by omega
        exact h_4_1
      · skip
        refine v_iload_n (pc := 12) 3 dX2_sumOfWorths_12 rfl rfl ?_
        refine v_iload_n (pc := 13) 0 dX2_sumOfWorths_13 rfl rfl ?_
        refine v_callBit (pc := 14) (rest := []) [] (by decide) tb_399 tb_58 tb_398 (c_X4_bitOf l E x (nI i)) dX2_sumOfWorths_14 rfl rfl (Nat.le_of_ble_eq_true rfl) (by decide) (by decide) rfl (Rt.len rfl) (Rt.go ?_)
        refine v_w (ws' := [(a0, .inr (2, [.int (nI nt), .int (nI pp), .int (nI rl), .int (hm), .int (sp), .int (td), .int (dt), .ref ao, .ref aw, .ref an, .ref ab, .ref av])), (av, .inl (E.2.1 1, 6, .inl (wo)))]) rfl ?_
        refine v_st (st' := [.int (bt1 x (nI i))]) rfl ?_
        refine v_iconst (pc := 17) (v := 1) dX2_sumOfWorths_17 (by decide) ?_
        refine v_icmp_ne (pc := 18) 30 dX2_sumOfWorths_18 (by decide) (fun c_18 => ?_) (fun c_18 => ?_)
        · skip
          refine v_iinc (pc := 30) (v := nI (i + 1)) (lv' := [(3, .int (nI (i + 1))), (2, .int (acc)), (0, .ref a0), (1, .int (x))]) 0 dX2_sumOfWorths_30 rfl (nI_inc (i) 1) (by decide) rfl ?_
          refine v_goto (pc := 33) 4 dX2_sumOfWorths_33 (by decide) ?_
          refine v_lv (lv' := [(3, .int (nI (i + 1))), (2, .int (acc)), (0, .ref a0), (1, .int (x))]) [0, 1, 2, 3] rfl ?_
          refine ih_4 (i + 1) acc (by omega) ?_ ?_
          · omega
          · simp only [sumW]; first | rw [if_pos c_18, h_4_1] | rw [if_neg c_18, h_4_1]
        · skip
          refine v_iload_n (pc := 21) 1 dX2_sumOfWorths_21 rfl rfl ?_
          refine v_aload_n (pc := 22) 2 dX2_sumOfWorths_22 rfl rfl ?_
          refine gf_123 (pc := 23) 0 dX2_sumOfWorths_23 rfl rfl ?_
          refine v_iload_n (pc := 26) 0 dX2_sumOfWorths_26 rfl rfl ?_
          refine v_ialdN (pc := 27) 1 1 (i) dX2_sumOfWorths_27 rfl rfl rfl (by omega) (by decide) ?_
          refine v_iadd (pc := 28) dX2_sumOfWorths_28 ?_
          refine v_istore_n (pc := 29) (lv' := [(2, .int ((acc) + (wo i))), (3, .int (nI i)), (0, .ref a0), (1, .int (x))]) dX2_sumOfWorths_29 rfl (by decide) rfl ?_
          refine v_iinc (pc := 30) (v := nI (i + 1)) (lv' := [(3, .int (nI (i + 1))), (2, .int ((acc) + (wo i))), (0, .ref a0), (1, .int (x))]) 1 dX2_sumOfWorths_30 rfl (nI_inc (i) 1) (by decide) rfl ?_
          refine v_goto (pc := 33) 4 dX2_sumOfWorths_33 (by decide) ?_
          refine v_lv (lv' := [(3, .int (nI (i + 1))), (2, .int ((acc) + (wo i))), (0, .ref a0), (1, .int (x))]) [0, 1, 2, 3] rfl ?_
          refine ih_4 (i + 1) ((acc) + (wo i)) (by omega) ?_ ?_
          · omega
          · simp only [sumW]; first | rw [if_pos c_18, h_4_1] | rw [if_neg c_18, h_4_1]
  refine v_lv (lv' := [(3, .int (nI 0)), (2, .int (0)), (0, .ref a0), (1, .int (x))]) [0, 1, 2, 3] rfl ?_
  refine loop_4 ((nt - 0) + 1) 0 0 (Nat.lt_succ_self _) ?_ ?_
  · omega
  · rfl
theorem c_X2_beginnings (l : Launch) (E : VE) (a0 : Nat) (ao : Nat) (aw : Nat) (an : Nat) (ab : Nat) (av : Nat) (nt : Nat) (pp : Nat) (rl : Nat) (hm : Int32) (sp : Int32) (td : Int32) (dt : Int32) (on : Nat → Int32) (wr : Nat → Int32) (nd : Nat → Int32) (br : Nat → Int32) (x : Int32) (h_rl : rl ≤ 8) : Ct l E yX2_beginnings cX2_beginnings 7 (Option.some FieldType.int) 3 66 0 0 [.ref a0, .int (x)] [(a0, .inr (2, [.int (nI nt), .int (nI pp), .int (nI rl), .int (hm), .int (sp), .int (td), .int (dt), .ref ao, .ref aw, .ref an, .ref ab, .ref av])), (ao, .inl (E.2.1 1, 8, .inl (on))), (aw, .inl (E.2.1 1, 8, .inl (wr))), (an, .inl (E.2.1 1, 8, .inl (nd))), (ab, .inl (E.2.1 1, 8, .inl (br)))] (Rt (some (.int (begs rl hm sp on wr nd br x))) [(a0, .inr (2, [.int (nI nt), .int (nI pp), .int (nI rl), .int (hm), .int (sp), .int (td), .int (dt), .ref ao, .ref aw, .ref an, .ref ab, .ref av])), (ao, .inl (E.2.1 1, 8, .inl (on))), (aw, .inl (E.2.1 1, 8, .inl (wr))), (an, .inl (E.2.1 1, 8, .inl (nd))), (ab, .inl (E.2.1 1, 8, .inl (br)))]) := by
  refine Ct.of (own := RX2) (nm := "beginnings") (lv := [(0, .ref a0), (1, .int (x))]) (by decide) rfl rfl (Nat.le_of_ble_eq_true rfl) rfl ?_
  refine v_iload_n (pc := 0) 1 dX2_beginnings_0 rfl rfl ?_
  refine v_aload_n (pc := 1) 0 dX2_beginnings_1 rfl rfl ?_
  refine gf_103 (pc := 2) 0 dX2_beginnings_2 rfl rfl ?_
  refine v_iconst (pc := 5) (v := -1) dX2_beginnings_5 (by decide) ?_
  refine v_ixor (pc := 6) dX2_beginnings_6 ?_
  refine v_iand (pc := 7) dX2_beginnings_7 ?_
  refine v_istore_n (pc := 8) (lv' := [(2, .int ((x) &&& ((sp) ^^^ (-1)))), (0, .ref a0), (1, .int (x))]) dX2_beginnings_8 rfl (by decide) rfl ?_
  refine v_aload_n (pc := 9) 1 dX2_beginnings_9 rfl rfl ?_
  refine v_iload_n (pc := 10) 2 dX2_beginnings_10 rfl rfl ?_
  refine v_callV (pc := 11) (rest := []) [0, 1, 3, 4] 0 lk_608 (c_X2_holding l E a0 ao aw an ab av nt pp rl hm sp td dt on nd br x (by first | assumption | omega)) dX2_beginnings_11 rfl rfl (Nat.le_of_ble_eq_true rfl) (by decide) rfl rfl rfl (by decide) rfl (Rt.len rfl) (Rt.go ?_)
  refine v_w (ws' := [(a0, .inr (2, [.int (nI nt), .int (nI pp), .int (nI rl), .int (hm), .int (sp), .int (td), .int (dt), .ref ao, .ref aw, .ref an, .ref ab, .ref av])), (ao, .inl (E.2.1 1, 8, .inl (on))), (aw, .inl (E.2.1 1, 8, .inl (wr))), (an, .inl (E.2.1 1, 8, .inl (nd))), (ab, .inl (E.2.1 1, 8, .inl (br)))]) rfl ?_
  refine v_st (st' := [.int (orF (hp hm on nd br x) (fun k => nI k) rl)]) rfl ?_
  refine v_istore_n (pc := 14) (lv' := [(3, .int (orF (hp hm on nd br x) (fun k => nI k) rl)), (2, .int ((x) &&& ((sp) ^^^ (-1)))), (0, .ref a0), (1, .int (x))]) dX2_beginnings_14 rfl (by decide) rfl ?_
  generalize hhl : orF (hp hm on nd br x) (fun k => nI k) rl = hl
  generalize hps : x &&& (sp ^^^ -1) = ps
  refine v_iconst (pc := 15) (v := 0) dX2_beginnings_15 (by decide) ?_
  refine v_istore (pc := 16) (lv' := [(4, .int (0)), (3, .int (hl)), (2, .int (ps)), (0, .ref a0), (1, .int (x))]) dX2_beginnings_16 (by decide) rfl ?_
  refine v_iconst (pc := 18) (v := 0) dX2_beginnings_18 (by decide) ?_
  refine v_istore (pc := 19) (lv' := [(5, .int (0)), (4, .int (0)), (3, .int (hl)), (2, .int (ps)), (0, .ref a0), (1, .int (x))]) dX2_beginnings_19 (by decide) rfl ?_
  have loop_21 : ∀ (D_21 : Nat) (t : Nat) (b : Int32), 6 - t < D_21 → (t ≤ 6) → (b = begT rl hl nd wr ps t) → V l E RX2 cX2_beginnings 7 (Option.some FieldType.int) "beginnings" ({ frames := 3, cells := 0, slots := 0, locals := 66 }) [(a0, .inr (2, [.int (nI nt), .int (nI pp), .int (nI rl), .int (hm), .int (sp), .int (td), .int (dt), .ref ao, .ref aw, .ref an, .ref ab, .ref av])), (ao, .inl (E.2.1 1, 8, .inl (on))), (aw, .inl (E.2.1 1, 8, .inl (wr))), (an, .inl (E.2.1 1, 8, .inl (nd))), (ab, .inl (E.2.1 1, 8, .inl (br)))] 0 0 (Rt (some (.int (begs rl hm sp on wr nd br x))) [(a0, .inr (2, [.int (nI nt), .int (nI pp), .int (nI rl), .int (hm), .int (sp), .int (td), .int (dt), .ref ao, .ref aw, .ref an, .ref ab, .ref av])), (ao, .inl (E.2.1 1, 8, .inl (on))), (aw, .inl (E.2.1 1, 8, .inl (wr))), (an, .inl (E.2.1 1, 8, .inl (nd))), (ab, .inl (E.2.1 1, 8, .inl (br)))]) 0 0 21 [(5, .int (nI t)), (4, .int (b)), (0, .ref a0), (1, .int (x)), (2, .int (ps)), (3, .int (hl))] [] [(a0, .inr (2, [.int (nI nt), .int (nI pp), .int (nI rl), .int (hm), .int (sp), .int (td), .int (dt), .ref ao, .ref aw, .ref an, .ref ab, .ref av])), (ao, .inl (E.2.1 1, 8, .inl (on))), (aw, .inl (E.2.1 1, 8, .inl (wr))), (an, .inl (E.2.1 1, 8, .inl (nd))), (ab, .inl (E.2.1 1, 8, .inl (br)))] := by
    intro D_21
    induction D_21 with
    | zero => intro t b h; exact absurd h (Nat.not_lt_zero _)
    | succ D_21 ih_21 =>
      intro t b hmu_21 h_21_0 h_21_1
      refine v_iload (pc := 21) 0 dX2_beginnings_21 rfl ?_
      refine v_bipush (pc := 23) (v := 6) dX2_beginnings_23 (by decide) ?_
      refine v_cmpN_ge (pc := 25) (a := t) (b := 6) 93 dX2_beginnings_25 (by decide) (by omega) (by omega) (fun c_25 => ?_) (fun c_25 => ?_)
      · skip
        refine v_iload (pc := 93) 1 dX2_beginnings_93 rfl ?_
        refine v_iret (pc := 95) dX2_beginnings_95 rfl ⟨rfl, rfl⟩ (Rt.i ?_)
        obtain rfl : t = 6 := by omega
        rw [h_21_1]; unfold begs; rw [hhl, hps]
      · skip
        refine v_iconst (pc := 28) (v := 0) dX2_beginnings_28 (by decide) ?_
        refine v_istore (pc := 29) (lv' := [(6, .int (0)), (5, .int (nI t)), (4, .int (b)), (0, .ref a0), (1, .int (x)), (2, .int (ps)), (3, .int (hl))]) dX2_beginnings_29 (by decide) rfl ?_
        have loop_31 : ∀ (D_31 : Nat) (i : Nat) (acc : Int32), rl - i < D_31 → (i ≤ rl) → (acc = begK hl nd wr ps i b) → V l E RX2 cX2_beginnings 7 (Option.some FieldType.int) "beginnings" ({ frames := 3, cells := 0, slots := 0, locals := 66 }) [(a0, .inr (2, [.int (nI nt), .int (nI pp), .int (nI rl), .int (hm), .int (sp), .int (td), .int (dt), .ref ao, .ref aw, .ref an, .ref ab, .ref av])), (ao, .inl (E.2.1 1, 8, .inl (on))), (aw, .inl (E.2.1 1, 8, .inl (wr))), (an, .inl (E.2.1 1, 8, .inl (nd))), (ab, .inl (E.2.1 1, 8, .inl (br)))] 0 0 (Rt (some (.int (begs rl hm sp on wr nd br x))) [(a0, .inr (2, [.int (nI nt), .int (nI pp), .int (nI rl), .int (hm), .int (sp), .int (td), .int (dt), .ref ao, .ref aw, .ref an, .ref ab, .ref av])), (ao, .inl (E.2.1 1, 8, .inl (on))), (aw, .inl (E.2.1 1, 8, .inl (wr))), (an, .inl (E.2.1 1, 8, .inl (nd))), (ab, .inl (E.2.1 1, 8, .inl (br)))]) 0 0 31 [(6, .int (nI i)), (4, .int (acc)), (5, .int (nI t)), (0, .ref a0), (1, .int (x)), (2, .int (ps)), (3, .int (hl))] [] [(a0, .inr (2, [.int (nI nt), .int (nI pp), .int (nI rl), .int (hm), .int (sp), .int (td), .int (dt), .ref ao, .ref aw, .ref an, .ref ab, .ref av])), (ao, .inl (E.2.1 1, 8, .inl (on))), (aw, .inl (E.2.1 1, 8, .inl (wr))), (an, .inl (E.2.1 1, 8, .inl (nd))), (ab, .inl (E.2.1 1, 8, .inl (br)))] := by
          intro D_31
          induction D_31 with
          | zero => intro i acc h; exact absurd h (Nat.not_lt_zero _)
          | succ D_31 ih_31 =>
            intro i acc hmu_31 h_31_0 h_31_1
            refine v_iload (pc := 31) 0 dX2_beginnings_31 rfl ?_
            refine v_aload_n (pc := 33) 3 dX2_beginnings_33 rfl rfl ?_
            refine gf_94 (pc := 34) 0 dX2_beginnings_34 rfl rfl ?_
            refine v_cmpN_ge (pc := 37) (a := i) (b := rl) 87 dX2_beginnings_37 (by decide) (by omega) (by omega) (fun c_37 => ?_) (fun c_37 => ?_)
            · skip
              refine v_iinc (pc := 87) (v := nI (t + 1)) (lv' := [(5, .int (nI (t + 1))), (6, .int (nI i)), (4, .int (acc)), (0, .ref a0), (1, .int (x)), (2, .int (ps)), (3, .int (hl))]) 2 dX2_beginnings_87 rfl (nI_inc (t) 1) (by decide) rfl ?_
              refine v_goto (pc := 90) 21 dX2_beginnings_90 (by decide) ?_
              refine v_lv (lv' := [(5, .int (nI (t + 1))), (4, .int (acc)), (0, .ref a0), (1, .int (x)), (2, .int (ps)), (3, .int (hl))]) [0, 2, 3, 4, 5, 6] rfl ?_
              refine ih_21 (t + 1) acc (by omega) ?_ ?_
              · omega
              · obtain rfl : i = rl := by omega
                rw [h_31_1, h_21_1]; rfl
            · skip
              refine v_iload_n (pc := 40) 6 dX2_beginnings_40 rfl rfl ?_
              refine v_iload (pc := 41) 0 dX2_beginnings_41 rfl ?_
              refine v_callBit (pc := 43) (rest := []) [] (by decide) tb_399 tb_58 tb_398 (c_X4_bitOf l E hl (nI i)) dX2_beginnings_43 rfl rfl (Nat.le_of_ble_eq_true rfl) (by decide) (by decide) rfl (Rt.len rfl) (Rt.go ?_)
              refine v_w (ws' := [(a0, .inr (2, [.int (nI nt), .int (nI pp), .int (nI rl), .int (hm), .int (sp), .int (td), .int (dt), .ref ao, .ref aw, .ref an, .ref ab, .ref av])), (ao, .inl (E.2.1 1, 8, .inl (on))), (aw, .inl (E.2.1 1, 8, .inl (wr))), (an, .inl (E.2.1 1, 8, .inl (nd))), (ab, .inl (E.2.1 1, 8, .inl (br)))]) rfl ?_
              refine v_st (st' := [.int (bt1 hl (nI i))]) rfl ?_
              refine v_iconst (pc := 46) (v := 1) dX2_beginnings_46 (by decide) ?_
              refine v_icmp_ne (pc := 47) 81 dX2_beginnings_47 (by decide) (fun c_47 => ?_) (fun c_47 => ?_)
              · skip
                refine v_iinc (pc := 81) (v := nI (i + 1)) (lv' := [(6, .int (nI (i + 1))), (4, .int (acc)), (5, .int (nI t)), (0, .ref a0), (1, .int (x)), (2, .int (ps)), (3, .int (hl))]) 0 dX2_beginnings_81 rfl (nI_inc (i) 1) (by decide) rfl ?_
                refine v_goto (pc := 84) 31 dX2_beginnings_84 (by decide) ?_
                refine v_lv (lv' := [(6, .int (nI (i + 1))), (4, .int (acc)), (5, .int (nI t)), (0, .ref a0), (1, .int (x)), (2, .int (ps)), (3, .int (hl))]) [0, 1, 2, 3, 4, 5, 6] rfl ?_
                refine ih_31 (i + 1) acc (by omega) ?_ ?_
                · omega
                · simp only [begK]; rw [← h_31_1, if_neg (fun q => c_47 q.1)]
              · skip
                refine v_aload_n (pc := 50) 3 dX2_beginnings_50 rfl rfl ?_
                refine gf_117 (pc := 51) 0 dX2_beginnings_51 rfl rfl ?_
                refine v_iload (pc := 54) 0 dX2_beginnings_54 rfl ?_
                refine v_ialdN (pc := 56) 3 1 (i) dX2_beginnings_56 rfl rfl rfl (by omega) (by decide) ?_
                refine v_iload (pc := 57) 1 dX2_beginnings_57 rfl ?_
                refine v_iconst (pc := 59) (v := -1) dX2_beginnings_59 (by decide) ?_
                refine v_ixor (pc := 60) dX2_beginnings_60 ?_
                refine v_iand (pc := 61) dX2_beginnings_61 ?_
                refine v_if_ne (pc := 62) 81 dX2_beginnings_62 (by decide) (fun c_62 => ?_) (fun c_62 => ?_)
                · skip
                  refine v_iinc (pc := 81) (v := nI (i + 1)) (lv' := [(6, .int (nI (i + 1))), (4, .int (acc)), (5, .int (nI t)), (0, .ref a0), (1, .int (x)), (2, .int (ps)), (3, .int (hl))]) 0 dX2_beginnings_81 rfl (nI_inc (i) 1) (by decide) rfl ?_
                  refine v_goto (pc := 84) 31 dX2_beginnings_84 (by decide) ?_
                  refine v_lv (lv' := [(6, .int (nI (i + 1))), (4, .int (acc)), (5, .int (nI t)), (0, .ref a0), (1, .int (x)), (2, .int (ps)), (3, .int (hl))]) [0, 1, 2, 3, 4, 5, 6] rfl ?_
                  refine ih_31 (i + 1) acc (by omega) ?_ ?_
                  · omega
                  · simp only [begK]; rw [← h_31_1, if_neg (fun q => c_62 q.2)]
                · skip
                  refine v_iload (pc := 65) 1 dX2_beginnings_65 rfl ?_
                  refine v_iconst (pc := 67) (v := 1) dX2_beginnings_67 (by decide) ?_
                  refine v_aload_n (pc := 68) 3 dX2_beginnings_68 rfl rfl ?_
                  refine gf_114 (pc := 69) 0 dX2_beginnings_69 rfl rfl ?_
                  refine v_iload (pc := 72) 0 dX2_beginnings_72 rfl ?_
                  refine v_ialdN (pc := 74) 2 1 (i) dX2_beginnings_74 rfl rfl rfl (by omega) (by decide) ?_
                  refine v_ishl (pc := 75) dX2_beginnings_75 ?_
                  refine v_iload_n (pc := 76) 5 dX2_beginnings_76 rfl rfl ?_
                  refine v_iand (pc := 77) dX2_beginnings_77 ?_
                  refine v_ior (pc := 78) dX2_beginnings_78 ?_
                  refine v_istore (pc := 79) (lv' := [(4, .int ((acc) ||| (((1 : Int32) <<< ((wr i) &&& 31)) &&& (ps)))), (6, .int (nI i)), (5, .int (nI t)), (0, .ref a0), (1, .int (x)), (2, .int (ps)), (3, .int (hl))]) dX2_beginnings_79 (by decide) rfl ?_
                  refine v_iinc (pc := 81) (v := nI (i + 1)) (lv' := [(6, .int (nI (i + 1))), (4, .int ((acc) ||| (((1 : Int32) <<< ((wr i) &&& 31)) &&& (ps)))), (5, .int (nI t)), (0, .ref a0), (1, .int (x)), (2, .int (ps)), (3, .int (hl))]) 1 dX2_beginnings_81 rfl (nI_inc (i) 1) (by decide) rfl ?_
                  refine v_goto (pc := 84) 31 dX2_beginnings_84 (by decide) ?_
                  refine v_lv (lv' := [(6, .int (nI (i + 1))), (4, .int ((acc) ||| (((1 : Int32) <<< ((wr i) &&& 31)) &&& (ps)))), (5, .int (nI t)), (0, .ref a0), (1, .int (x)), (2, .int (ps)), (3, .int (hl))]) [0, 1, 2, 3, 4, 5, 6] rfl ?_
                  refine ih_31 (i + 1) ((acc) ||| (((1 : Int32) <<< ((wr i) &&& 31)) &&& (ps))) (by omega) ?_ ?_
                  · omega
                  · simp only [begK]; rw [← h_31_1, if_pos ⟨c_47, c_62⟩]
        refine v_lv (lv' := [(6, .int (nI 0)), (4, .int (b)), (5, .int (nI t)), (0, .ref a0), (1, .int (x)), (2, .int (ps)), (3, .int (hl))]) [0, 2, 1, 3, 4, 5, 6] rfl ?_
        refine loop_31 ((rl - 0) + 1) 0 b (Nat.lt_succ_self _) ?_ ?_
        · omega
        · rfl
  refine v_lv (lv' := [(5, .int (nI 0)), (4, .int (0)), (0, .ref a0), (1, .int (x)), (2, .int (ps)), (3, .int (hl))]) [0, 1, 4, 5, 3, 2] rfl ?_
  refine loop_21 ((6 - 0) + 1) 0 0 (Nat.lt_succ_self _) ?_ ?_
  · omega
  · rfl
theorem c_X2_clear (l : Launch) (E : VE) (a0 : Nat) (ao : Nat) (aw : Nat) (an : Nat) (ab : Nat) (av : Nat) (nt : Nat) (pp : Nat) (rl : Nat) (hm : Int32) (sp : Int32) (td : Int32) (dt : Int32) (wo : Nat → Int32) : Ct l E yX2_clear cX2_clear 1 (Option.none : Option Jvm.ClassFile.FieldType) 1 23 0 0 [.ref a0] [(a0, .inr (2, [.int (nI nt), .int (nI pp), .int (nI rl), .int (hm), .int (sp), .int (td), .int (dt), .ref ao, .ref aw, .ref an, .ref ab, .ref av])), (av, .inl (E.2.1 1, 6, .inl (wo)))] (Rt none [(a0, .inr (2, [.int (3), .int (2), .int (0), .int (0), .int (0), .int (0), .int (0), .ref ao, .ref aw, .ref an, .ref ab, .ref av])), (av, .inl (E.2.1 1, 6, .inl (fillI wo 0 6)))]) := by
  refine Ct.of (own := RX2) (nm := "clear") (lv := [(0, .ref a0)]) (by decide) rfl rfl (Nat.le_of_ble_eq_true rfl) rfl ?_
  refine v_aload_n (pc := 0) 0 dX2_clear_0 rfl rfl ?_
  refine v_iconst (pc := 1) (v := 3) dX2_clear_1 (by decide) ?_
  refine pf_87 (pc := 2) (ws' := [(a0, .inr (2, [.int (3), .int (nI pp), .int (nI rl), .int (hm), .int (sp), .int (td), .int (dt), .ref ao, .ref aw, .ref an, .ref ab, .ref av])), (av, .inl (E.2.1 1, 6, .inl (wo)))]) 0 dX2_clear_2 rfl rfl rfl (Nat.le_of_ble_eq_true rfl) rfl ?_
  refine v_aload_n (pc := 5) 0 dX2_clear_5 rfl rfl ?_
  refine v_iconst (pc := 6) (v := 2) dX2_clear_6 (by decide) ?_
  refine pf_91 (pc := 7) (ws' := [(a0, .inr (2, [.int (3), .int (2), .int (nI rl), .int (hm), .int (sp), .int (td), .int (dt), .ref ao, .ref aw, .ref an, .ref ab, .ref av])), (av, .inl (E.2.1 1, 6, .inl (wo)))]) 0 dX2_clear_7 rfl rfl rfl (Nat.le_of_ble_eq_true rfl) rfl ?_
  refine v_aload_n (pc := 10) 0 dX2_clear_10 rfl rfl ?_
  refine v_iconst (pc := 11) (v := 0) dX2_clear_11 (by decide) ?_
  refine pf_94 (pc := 12) (ws' := [(a0, .inr (2, [.int (3), .int (2), .int (0), .int (hm), .int (sp), .int (td), .int (dt), .ref ao, .ref aw, .ref an, .ref ab, .ref av])), (av, .inl (E.2.1 1, 6, .inl (wo)))]) 0 dX2_clear_12 rfl rfl rfl (Nat.le_of_ble_eq_true rfl) rfl ?_
  refine v_aload_n (pc := 15) 0 dX2_clear_15 rfl rfl ?_
  refine v_iconst (pc := 16) (v := 0) dX2_clear_16 (by decide) ?_
  refine pf_99 (pc := 17) (ws' := [(a0, .inr (2, [.int (3), .int (2), .int (0), .int (0), .int (sp), .int (td), .int (dt), .ref ao, .ref aw, .ref an, .ref ab, .ref av])), (av, .inl (E.2.1 1, 6, .inl (wo)))]) 0 dX2_clear_17 rfl rfl rfl (Nat.le_of_ble_eq_true rfl) rfl ?_
  refine v_aload_n (pc := 20) 0 dX2_clear_20 rfl rfl ?_
  refine v_iconst (pc := 21) (v := 0) dX2_clear_21 (by decide) ?_
  refine pf_103 (pc := 22) (ws' := [(a0, .inr (2, [.int (3), .int (2), .int (0), .int (0), .int (0), .int (td), .int (dt), .ref ao, .ref aw, .ref an, .ref ab, .ref av])), (av, .inl (E.2.1 1, 6, .inl (wo)))]) 0 dX2_clear_22 rfl rfl rfl (Nat.le_of_ble_eq_true rfl) rfl ?_
  refine v_aload_n (pc := 25) 0 dX2_clear_25 rfl rfl ?_
  refine v_iconst (pc := 26) (v := 0) dX2_clear_26 (by decide) ?_
  refine pf_106 (pc := 27) (ws' := [(a0, .inr (2, [.int (3), .int (2), .int (0), .int (0), .int (0), .int (0), .int (dt), .ref ao, .ref aw, .ref an, .ref ab, .ref av])), (av, .inl (E.2.1 1, 6, .inl (wo)))]) 0 dX2_clear_27 rfl rfl rfl (Nat.le_of_ble_eq_true rfl) rfl ?_
  refine v_aload_n (pc := 30) 0 dX2_clear_30 rfl rfl ?_
  refine v_iconst (pc := 31) (v := 0) dX2_clear_31 (by decide) ?_
  refine pf_109 (pc := 32) (ws' := [(a0, .inr (2, [.int (3), .int (2), .int (0), .int (0), .int (0), .int (0), .int (0), .ref ao, .ref aw, .ref an, .ref ab, .ref av])), (av, .inl (E.2.1 1, 6, .inl (wo)))]) 0 dX2_clear_32 rfl rfl rfl (Nat.le_of_ble_eq_true rfl) rfl ?_
  refine v_aload_n (pc := 35) 0 dX2_clear_35 rfl rfl ?_
  refine gf_123 (pc := 36) 0 dX2_clear_36 rfl rfl ?_
  refine v_iconst (pc := 39) (v := 0) dX2_clear_39 (by decide) ?_
  refine v_callS (pc := 40) (rest := []) [1] lk_298 (c_J7_fill_53178 l E av 6 wo 0 (by first | assumption | omega)) dX2_clear_40 rfl rfl (Nat.le_of_ble_eq_true rfl) (by decide) (by decide) rfl (Rt.len rfl) (Rt.go ?_)
  refine v_w (ws' := [(a0, .inr (2, [.int (3), .int (2), .int (0), .int (0), .int (0), .int (0), .int (0), .ref ao, .ref aw, .ref an, .ref ab, .ref av])), (av, .inl (E.2.1 1, 6, .inl (fillI wo 0 6)))]) rfl ?_
  refine v_st (st' := []) rfl ?_
  refine v_vret (pc := 43) dX2_clear_43 rfl ⟨rfl, rfl⟩ (Rt.w ?_)
  rfl
theorem c_X2_addRule (l : Launch) (E : VE) (a0 : Nat) (ao : Nat) (aw : Nat) (an : Nat) (ab : Nat) (av : Nat) (nt : Nat) (pp : Nat) (rl : Nat) (hm : Int32) (sp : Int32) (td : Int32) (dt : Int32) (on : Nat → Int32) (wr : Nat → Int32) (nd : Nat → Int32) (br : Nat → Int32) (o : Int32) (w : Int32) (n : Int32) (b : Int32) (h_rl : rl < 8) : Ct l E yX2_addRule cX2_addRule 5 (Option.none : Option Jvm.ClassFile.FieldType) 0 0 0 0 [.ref a0, .int (o), .int (w), .int (n), .int (b)] [(a0, .inr (2, [.int (nI nt), .int (nI pp), .int (nI rl), .int (hm), .int (sp), .int (td), .int (dt), .ref ao, .ref aw, .ref an, .ref ab, .ref av])), (ao, .inl (E.2.1 1, 8, .inl (on))), (aw, .inl (E.2.1 1, 8, .inl (wr))), (an, .inl (E.2.1 1, 8, .inl (nd))), (ab, .inl (E.2.1 1, 8, .inl (br)))] (Rt none [(a0, .inr (2, [.int (nI nt), .int (nI pp), .int (nI (rl + 1)), .int (hm), .int (sp), .int (td), .int (dt), .ref ao, .ref aw, .ref an, .ref ab, .ref av])), (ao, .inl (E.2.1 1, 8, .inl (upd on rl o))), (aw, .inl (E.2.1 1, 8, .inl (upd wr rl w))), (an, .inl (E.2.1 1, 8, .inl (upd nd rl n))), (ab, .inl (E.2.1 1, 8, .inl (upd br rl b)))]) := by
  refine Ct.of (own := RX2) (nm := "addRule") (lv := [(0, .ref a0), (1, .int (o)), (2, .int (w)), (3, .int (n)), (4, .int (b))]) (by decide) rfl rfl (Nat.le_of_ble_eq_true rfl) rfl ?_
  refine v_aload_n (pc := 0) 0 dX2_addRule_0 rfl rfl ?_
  refine gf_94 (pc := 1) 0 dX2_addRule_1 rfl rfl ?_
  refine v_bipush (pc := 4) (v := 8) dX2_addRule_4 (by decide) ?_
  refine v_cmpN_ge (pc := 6) (a := rl) (b := 8) 60 dX2_addRule_6 (by decide) (by omega) (by omega) (fun c_6 => ?_) (fun c_6 => ?_)
  · skip
    refine v_vret (pc := 60) dX2_addRule_60 rfl ⟨rfl, rfl⟩ (Rt.w ?_)
    first | (exfalso; omega) | rw [nI_1]
  · skip
    refine v_aload_n (pc := 9) 0 dX2_addRule_9 rfl rfl ?_
    refine gf_111 (pc := 10) 0 dX2_addRule_10 rfl rfl ?_
    refine v_aload_n (pc := 13) 0 dX2_addRule_13 rfl rfl ?_
    refine gf_94 (pc := 14) 0 dX2_addRule_14 rfl rfl ?_
    refine v_iload_n (pc := 17) 1 dX2_addRule_17 rfl rfl ?_
    refine v_iastN (pc := 18) (ws' := [(a0, .inr (2, [.int (nI nt), .int (nI pp), .int (nI rl), .int (hm), .int (sp), .int (td), .int (dt), .ref ao, .ref aw, .ref an, .ref ab, .ref av])), (ao, .inl (E.2.1 1, 8, .inl (upd (on) (rl) (o)))), (aw, .inl (E.2.1 1, 8, .inl (wr))), (an, .inl (E.2.1 1, 8, .inl (nd))), (ab, .inl (E.2.1 1, 8, .inl (br)))]) 1 1 (rl) dX2_addRule_18 rfl rfl rfl (by omega) (by decide) rfl ?_
    refine v_aload_n (pc := 19) 0 dX2_addRule_19 rfl rfl ?_
    refine gf_114 (pc := 20) 0 dX2_addRule_20 rfl rfl ?_
    refine v_aload_n (pc := 23) 0 dX2_addRule_23 rfl rfl ?_
    refine gf_94 (pc := 24) 0 dX2_addRule_24 rfl rfl ?_
    refine v_iload_n (pc := 27) 2 dX2_addRule_27 rfl rfl ?_
    refine v_iastN (pc := 28) (ws' := [(a0, .inr (2, [.int (nI nt), .int (nI pp), .int (nI rl), .int (hm), .int (sp), .int (td), .int (dt), .ref ao, .ref aw, .ref an, .ref ab, .ref av])), (ao, .inl (E.2.1 1, 8, .inl (upd (on) (rl) (o)))), (aw, .inl (E.2.1 1, 8, .inl (upd (wr) (rl) (w)))), (an, .inl (E.2.1 1, 8, .inl (nd))), (ab, .inl (E.2.1 1, 8, .inl (br)))]) 2 1 (rl) dX2_addRule_28 rfl rfl rfl (by omega) (by decide) rfl ?_
    refine v_aload_n (pc := 29) 0 dX2_addRule_29 rfl rfl ?_
    refine gf_117 (pc := 30) 0 dX2_addRule_30 rfl rfl ?_
    refine v_aload_n (pc := 33) 0 dX2_addRule_33 rfl rfl ?_
    refine gf_94 (pc := 34) 0 dX2_addRule_34 rfl rfl ?_
    refine v_iload_n (pc := 37) 3 dX2_addRule_37 rfl rfl ?_
    refine v_iastN (pc := 38) (ws' := [(a0, .inr (2, [.int (nI nt), .int (nI pp), .int (nI rl), .int (hm), .int (sp), .int (td), .int (dt), .ref ao, .ref aw, .ref an, .ref ab, .ref av])), (ao, .inl (E.2.1 1, 8, .inl (upd (on) (rl) (o)))), (aw, .inl (E.2.1 1, 8, .inl (upd (wr) (rl) (w)))), (an, .inl (E.2.1 1, 8, .inl (upd (nd) (rl) (n)))), (ab, .inl (E.2.1 1, 8, .inl (br)))]) 3 1 (rl) dX2_addRule_38 rfl rfl rfl (by omega) (by decide) rfl ?_
    refine v_aload_n (pc := 39) 0 dX2_addRule_39 rfl rfl ?_
    refine gf_120 (pc := 40) 0 dX2_addRule_40 rfl rfl ?_
    refine v_aload_n (pc := 43) 0 dX2_addRule_43 rfl rfl ?_
    refine gf_94 (pc := 44) 0 dX2_addRule_44 rfl rfl ?_
    refine v_iload (pc := 47) 4 dX2_addRule_47 rfl ?_
    refine v_iastN (pc := 49) (ws' := [(a0, .inr (2, [.int (nI nt), .int (nI pp), .int (nI rl), .int (hm), .int (sp), .int (td), .int (dt), .ref ao, .ref aw, .ref an, .ref ab, .ref av])), (ao, .inl (E.2.1 1, 8, .inl (upd (on) (rl) (o)))), (aw, .inl (E.2.1 1, 8, .inl (upd (wr) (rl) (w)))), (an, .inl (E.2.1 1, 8, .inl (upd (nd) (rl) (n)))), (ab, .inl (E.2.1 1, 8, .inl (upd (br) (rl) (b))))]) 4 1 (rl) dX2_addRule_49 rfl rfl rfl (by omega) (by decide) rfl ?_
    refine v_aload_n (pc := 50) 0 dX2_addRule_50 rfl rfl ?_
    refine v_dup (pc := 51) dX2_addRule_51 rfl ?_
    refine gf_94 (pc := 52) 0 dX2_addRule_52 rfl rfl ?_
    refine v_iconst (pc := 55) (v := 1) dX2_addRule_55 (by decide) ?_
    refine v_iadd (pc := 56) dX2_addRule_56 ?_
    refine pf_94 (pc := 57) (ws' := [(a0, .inr (2, [.int (nI nt), .int (nI pp), .int ((nI rl) + (1)), .int (hm), .int (sp), .int (td), .int (dt), .ref ao, .ref aw, .ref an, .ref ab, .ref av])), (ao, .inl (E.2.1 1, 8, .inl (upd (on) (rl) (o)))), (aw, .inl (E.2.1 1, 8, .inl (upd (wr) (rl) (w)))), (an, .inl (E.2.1 1, 8, .inl (upd (nd) (rl) (n)))), (ab, .inl (E.2.1 1, 8, .inl (upd (br) (rl) (b))))]) 0 dX2_addRule_57 rfl rfl rfl (Nat.le_of_ble_eq_true rfl) rfl ?_
    refine v_vret (pc := 60) dX2_addRule_60 rfl ⟨rfl, rfl⟩ (Rt.w ?_)
    first | (exfalso; omega) | rw [nI_1]
/-- become -/
theorem c_X2_become (l : Launch) (E : VE) (a0 : Nat) (ao : Nat) (aw : Nat) (an : Nat) (ab : Nat) (av : Nat) (nt : Nat) (pp : Nat) (rl : Nat) (hm : Int32) (sp : Int32) (td : Int32) (dt : Int32) (on : Nat → Int32) (wr : Nat → Int32) (nd : Nat → Int32) (br : Nat → Int32) (wo : Nat → Int32) (c0 : Nat) (co : Nat) (cw : Nat) (cn : Nat) (cb : Nat) (cv : Nat) (nt2 : Nat) (pp2 : Nat) (rl2 : Nat) (hm2 : Int32) (sp2 : Int32) (td2 : Int32) (dt2 : Int32) (on2 : Nat → Int32) (wr2 : Nat → Int32) (nd2 : Nat → Int32) (br2 : Nat → Int32) (wo2 : Nat → Int32) : Ct l E yX2_become cX2_become 2 (Option.none : Option Jvm.ClassFile.FieldType) 1 40 0 0 [.ref a0, .ref c0] [(a0, .inr (2, [.int (nI nt), .int (nI pp), .int (nI rl), .int (hm), .int (sp), .int (td), .int (dt), .ref ao, .ref aw, .ref an, .ref ab, .ref av])), (ao, .inl (E.2.1 1, 8, .inl (on))), (aw, .inl (E.2.1 1, 8, .inl (wr))), (an, .inl (E.2.1 1, 8, .inl (nd))), (ab, .inl (E.2.1 1, 8, .inl (br))), (av, .inl (E.2.1 1, 6, .inl (wo))), (c0, .inr (2, [.int (nI nt2), .int (nI pp2), .int (nI rl2), .int (hm2), .int (sp2), .int (td2), .int (dt2), .ref co, .ref cw, .ref cn, .ref cb, .ref cv])), (co, .inl (E.2.1 1, 8, .inl (on2))), (cw, .inl (E.2.1 1, 8, .inl (wr2))), (cn, .inl (E.2.1 1, 8, .inl (nd2))), (cb, .inl (E.2.1 1, 8, .inl (br2))), (cv, .inl (E.2.1 1, 6, .inl (wo2)))] (Rt none [(a0, .inr (2, [.int (nI nt2), .int (nI pp2), .int (nI rl2), .int (hm2), .int (sp2), .int (td2), .int (dt2), .ref ao, .ref aw, .ref an, .ref ab, .ref av])), (ao, .inl (E.2.1 1, 8, .inl (va_cpy (on2) (on) 0 0 8))), (aw, .inl (E.2.1 1, 8, .inl (va_cpy (wr2) (wr) 0 0 8))), (an, .inl (E.2.1 1, 8, .inl (va_cpy (nd2) (nd) 0 0 8))), (ab, .inl (E.2.1 1, 8, .inl (va_cpy (br2) (br) 0 0 8))), (av, .inl (E.2.1 1, 6, .inl (va_cpy (wo2) (wo) 0 0 6))), (c0, .inr (2, [.int (nI nt2), .int (nI pp2), .int (nI rl2), .int (hm2), .int (sp2), .int (td2), .int (dt2), .ref co, .ref cw, .ref cn, .ref cb, .ref cv])), (co, .inl (E.2.1 1, 8, .inl (on2))), (cw, .inl (E.2.1 1, 8, .inl (wr2))), (cn, .inl (E.2.1 1, 8, .inl (nd2))), (cb, .inl (E.2.1 1, 8, .inl (br2))), (cv, .inl (E.2.1 1, 6, .inl (wo2)))]) := by
  refine Ct.of (own := RX2) (nm := "become") (lv := [(0, .ref a0), (1, .ref c0)]) (by decide) rfl rfl (Nat.le_of_ble_eq_true rfl) rfl ?_
  refine v_aload_n (pc := 0) 0 dX2_become_0 rfl rfl ?_
  refine v_aload_n (pc := 1) 1 dX2_become_1 rfl rfl ?_
  refine gf_87 (pc := 2) 6 dX2_become_2 rfl rfl ?_
  refine pf_87 (pc := 5) (ws' := [(a0, .inr (2, [.int (nI nt2), .int (nI pp), .int (nI rl), .int (hm), .int (sp), .int (td), .int (dt), .ref ao, .ref aw, .ref an, .ref ab, .ref av])), (ao, .inl (E.2.1 1, 8, .inl (on))), (aw, .inl (E.2.1 1, 8, .inl (wr))), (an, .inl (E.2.1 1, 8, .inl (nd))), (ab, .inl (E.2.1 1, 8, .inl (br))), (av, .inl (E.2.1 1, 6, .inl (wo))), (c0, .inr (2, [.int (nI nt2), .int (nI pp2), .int (nI rl2), .int (hm2), .int (sp2), .int (td2), .int (dt2), .ref co, .ref cw, .ref cn, .ref cb, .ref cv])), (co, .inl (E.2.1 1, 8, .inl (on2))), (cw, .inl (E.2.1 1, 8, .inl (wr2))), (cn, .inl (E.2.1 1, 8, .inl (nd2))), (cb, .inl (E.2.1 1, 8, .inl (br2))), (cv, .inl (E.2.1 1, 6, .inl (wo2)))]) 0 dX2_become_5 rfl rfl rfl (Nat.le_of_ble_eq_true rfl) rfl ?_
  refine v_aload_n (pc := 8) 0 dX2_become_8 rfl rfl ?_
  refine v_aload_n (pc := 9) 1 dX2_become_9 rfl rfl ?_
  refine gf_91 (pc := 10) 6 dX2_become_10 rfl rfl ?_
  refine pf_91 (pc := 13) (ws' := [(a0, .inr (2, [.int (nI nt2), .int (nI pp2), .int (nI rl), .int (hm), .int (sp), .int (td), .int (dt), .ref ao, .ref aw, .ref an, .ref ab, .ref av])), (ao, .inl (E.2.1 1, 8, .inl (on))), (aw, .inl (E.2.1 1, 8, .inl (wr))), (an, .inl (E.2.1 1, 8, .inl (nd))), (ab, .inl (E.2.1 1, 8, .inl (br))), (av, .inl (E.2.1 1, 6, .inl (wo))), (c0, .inr (2, [.int (nI nt2), .int (nI pp2), .int (nI rl2), .int (hm2), .int (sp2), .int (td2), .int (dt2), .ref co, .ref cw, .ref cn, .ref cb, .ref cv])), (co, .inl (E.2.1 1, 8, .inl (on2))), (cw, .inl (E.2.1 1, 8, .inl (wr2))), (cn, .inl (E.2.1 1, 8, .inl (nd2))), (cb, .inl (E.2.1 1, 8, .inl (br2))), (cv, .inl (E.2.1 1, 6, .inl (wo2)))]) 0 dX2_become_13 rfl rfl rfl (Nat.le_of_ble_eq_true rfl) rfl ?_
  refine v_aload_n (pc := 16) 0 dX2_become_16 rfl rfl ?_
  refine v_aload_n (pc := 17) 1 dX2_become_17 rfl rfl ?_
  refine gf_94 (pc := 18) 6 dX2_become_18 rfl rfl ?_
  refine pf_94 (pc := 21) (ws' := [(a0, .inr (2, [.int (nI nt2), .int (nI pp2), .int (nI rl2), .int (hm), .int (sp), .int (td), .int (dt), .ref ao, .ref aw, .ref an, .ref ab, .ref av])), (ao, .inl (E.2.1 1, 8, .inl (on))), (aw, .inl (E.2.1 1, 8, .inl (wr))), (an, .inl (E.2.1 1, 8, .inl (nd))), (ab, .inl (E.2.1 1, 8, .inl (br))), (av, .inl (E.2.1 1, 6, .inl (wo))), (c0, .inr (2, [.int (nI nt2), .int (nI pp2), .int (nI rl2), .int (hm2), .int (sp2), .int (td2), .int (dt2), .ref co, .ref cw, .ref cn, .ref cb, .ref cv])), (co, .inl (E.2.1 1, 8, .inl (on2))), (cw, .inl (E.2.1 1, 8, .inl (wr2))), (cn, .inl (E.2.1 1, 8, .inl (nd2))), (cb, .inl (E.2.1 1, 8, .inl (br2))), (cv, .inl (E.2.1 1, 6, .inl (wo2)))]) 0 dX2_become_21 rfl rfl rfl (Nat.le_of_ble_eq_true rfl) rfl ?_
  refine v_aload_n (pc := 24) 0 dX2_become_24 rfl rfl ?_
  refine v_aload_n (pc := 25) 1 dX2_become_25 rfl rfl ?_
  refine gf_99 (pc := 26) 6 dX2_become_26 rfl rfl ?_
  refine pf_99 (pc := 29) (ws' := [(a0, .inr (2, [.int (nI nt2), .int (nI pp2), .int (nI rl2), .int (hm2), .int (sp), .int (td), .int (dt), .ref ao, .ref aw, .ref an, .ref ab, .ref av])), (ao, .inl (E.2.1 1, 8, .inl (on))), (aw, .inl (E.2.1 1, 8, .inl (wr))), (an, .inl (E.2.1 1, 8, .inl (nd))), (ab, .inl (E.2.1 1, 8, .inl (br))), (av, .inl (E.2.1 1, 6, .inl (wo))), (c0, .inr (2, [.int (nI nt2), .int (nI pp2), .int (nI rl2), .int (hm2), .int (sp2), .int (td2), .int (dt2), .ref co, .ref cw, .ref cn, .ref cb, .ref cv])), (co, .inl (E.2.1 1, 8, .inl (on2))), (cw, .inl (E.2.1 1, 8, .inl (wr2))), (cn, .inl (E.2.1 1, 8, .inl (nd2))), (cb, .inl (E.2.1 1, 8, .inl (br2))), (cv, .inl (E.2.1 1, 6, .inl (wo2)))]) 0 dX2_become_29 rfl rfl rfl (Nat.le_of_ble_eq_true rfl) rfl ?_
  refine v_aload_n (pc := 32) 0 dX2_become_32 rfl rfl ?_
  refine v_aload_n (pc := 33) 1 dX2_become_33 rfl rfl ?_
  refine gf_103 (pc := 34) 6 dX2_become_34 rfl rfl ?_
  refine pf_103 (pc := 37) (ws' := [(a0, .inr (2, [.int (nI nt2), .int (nI pp2), .int (nI rl2), .int (hm2), .int (sp2), .int (td), .int (dt), .ref ao, .ref aw, .ref an, .ref ab, .ref av])), (ao, .inl (E.2.1 1, 8, .inl (on))), (aw, .inl (E.2.1 1, 8, .inl (wr))), (an, .inl (E.2.1 1, 8, .inl (nd))), (ab, .inl (E.2.1 1, 8, .inl (br))), (av, .inl (E.2.1 1, 6, .inl (wo))), (c0, .inr (2, [.int (nI nt2), .int (nI pp2), .int (nI rl2), .int (hm2), .int (sp2), .int (td2), .int (dt2), .ref co, .ref cw, .ref cn, .ref cb, .ref cv])), (co, .inl (E.2.1 1, 8, .inl (on2))), (cw, .inl (E.2.1 1, 8, .inl (wr2))), (cn, .inl (E.2.1 1, 8, .inl (nd2))), (cb, .inl (E.2.1 1, 8, .inl (br2))), (cv, .inl (E.2.1 1, 6, .inl (wo2)))]) 0 dX2_become_37 rfl rfl rfl (Nat.le_of_ble_eq_true rfl) rfl ?_
  refine v_aload_n (pc := 40) 0 dX2_become_40 rfl rfl ?_
  refine v_aload_n (pc := 41) 1 dX2_become_41 rfl rfl ?_
  refine gf_106 (pc := 42) 6 dX2_become_42 rfl rfl ?_
  refine pf_106 (pc := 45) (ws' := [(a0, .inr (2, [.int (nI nt2), .int (nI pp2), .int (nI rl2), .int (hm2), .int (sp2), .int (td2), .int (dt), .ref ao, .ref aw, .ref an, .ref ab, .ref av])), (ao, .inl (E.2.1 1, 8, .inl (on))), (aw, .inl (E.2.1 1, 8, .inl (wr))), (an, .inl (E.2.1 1, 8, .inl (nd))), (ab, .inl (E.2.1 1, 8, .inl (br))), (av, .inl (E.2.1 1, 6, .inl (wo))), (c0, .inr (2, [.int (nI nt2), .int (nI pp2), .int (nI rl2), .int (hm2), .int (sp2), .int (td2), .int (dt2), .ref co, .ref cw, .ref cn, .ref cb, .ref cv])), (co, .inl (E.2.1 1, 8, .inl (on2))), (cw, .inl (E.2.1 1, 8, .inl (wr2))), (cn, .inl (E.2.1 1, 8, .inl (nd2))), (cb, .inl (E.2.1 1, 8, .inl (br2))), (cv, .inl (E.2.1 1, 6, .inl (wo2)))]) 0 dX2_become_45 rfl rfl rfl (Nat.le_of_ble_eq_true rfl) rfl ?_
  refine v_aload_n (pc := 48) 0 dX2_become_48 rfl rfl ?_
  refine v_aload_n (pc := 49) 1 dX2_become_49 rfl rfl ?_
  refine gf_109 (pc := 50) 6 dX2_become_50 rfl rfl ?_
  refine pf_109 (pc := 53) (ws' := [(a0, .inr (2, [.int (nI nt2), .int (nI pp2), .int (nI rl2), .int (hm2), .int (sp2), .int (td2), .int (dt2), .ref ao, .ref aw, .ref an, .ref ab, .ref av])), (ao, .inl (E.2.1 1, 8, .inl (on))), (aw, .inl (E.2.1 1, 8, .inl (wr))), (an, .inl (E.2.1 1, 8, .inl (nd))), (ab, .inl (E.2.1 1, 8, .inl (br))), (av, .inl (E.2.1 1, 6, .inl (wo))), (c0, .inr (2, [.int (nI nt2), .int (nI pp2), .int (nI rl2), .int (hm2), .int (sp2), .int (td2), .int (dt2), .ref co, .ref cw, .ref cn, .ref cb, .ref cv])), (co, .inl (E.2.1 1, 8, .inl (on2))), (cw, .inl (E.2.1 1, 8, .inl (wr2))), (cn, .inl (E.2.1 1, 8, .inl (nd2))), (cb, .inl (E.2.1 1, 8, .inl (br2))), (cv, .inl (E.2.1 1, 6, .inl (wo2)))]) 0 dX2_become_53 rfl rfl rfl (Nat.le_of_ble_eq_true rfl) rfl ?_
  refine v_aload_n (pc := 56) 1 dX2_become_56 rfl rfl ?_
  refine gf_111 (pc := 57) 6 dX2_become_57 rfl rfl ?_
  refine v_iconst (pc := 60) (v := 0) dX2_become_60 (by decide) ?_
  refine v_aload_n (pc := 61) 0 dX2_become_61 rfl rfl ?_
  refine gf_111 (pc := 62) 0 dX2_become_62 rfl rfl ?_
  refine v_iconst (pc := 65) (v := 0) dX2_become_65 (by decide) ?_
  refine v_bipush (pc := 66) (v := 8) dX2_become_66 (by decide) ?_
  refine v_copy0 (pc := 68) (ws' := [(a0, .inr (2, [.int (nI nt2), .int (nI pp2), .int (nI rl2), .int (hm2), .int (sp2), .int (td2), .int (dt2), .ref ao, .ref aw, .ref an, .ref ab, .ref av])), (ao, .inl (E.2.1 1, 8, .inl (va_cpy (on2) (on) 0 0 8))), (aw, .inl (E.2.1 1, 8, .inl (wr))), (an, .inl (E.2.1 1, 8, .inl (nd))), (ab, .inl (E.2.1 1, 8, .inl (br))), (av, .inl (E.2.1 1, 6, .inl (wo))), (c0, .inr (2, [.int (nI nt2), .int (nI pp2), .int (nI rl2), .int (hm2), .int (sp2), .int (td2), .int (dt2), .ref co, .ref cw, .ref cn, .ref cb, .ref cv])), (co, .inl (E.2.1 1, 8, .inl (on2))), (cw, .inl (E.2.1 1, 8, .inl (wr2))), (cn, .inl (E.2.1 1, 8, .inl (nd2))), (cb, .inl (E.2.1 1, 8, .inl (br2))), (cv, .inl (E.2.1 1, 6, .inl (wo2)))]) 8 7 1 dX2_become_68 tb_434 tb_436 tb_435 tb_69 rfl rfl rfl rfl (by decide) (by decide) (by decide) (by decide +kernel) rfl ?_
  refine v_aload_n (pc := 71) 1 dX2_become_71 rfl rfl ?_
  refine gf_114 (pc := 72) 6 dX2_become_72 rfl rfl ?_
  refine v_iconst (pc := 75) (v := 0) dX2_become_75 (by decide) ?_
  refine v_aload_n (pc := 76) 0 dX2_become_76 rfl rfl ?_
  refine gf_114 (pc := 77) 0 dX2_become_77 rfl rfl ?_
  refine v_iconst (pc := 80) (v := 0) dX2_become_80 (by decide) ?_
  refine v_bipush (pc := 81) (v := 8) dX2_become_81 (by decide) ?_
  refine v_copy0 (pc := 83) (ws' := [(a0, .inr (2, [.int (nI nt2), .int (nI pp2), .int (nI rl2), .int (hm2), .int (sp2), .int (td2), .int (dt2), .ref ao, .ref aw, .ref an, .ref ab, .ref av])), (ao, .inl (E.2.1 1, 8, .inl (va_cpy (on2) (on) 0 0 8))), (aw, .inl (E.2.1 1, 8, .inl (va_cpy (wr2) (wr) 0 0 8))), (an, .inl (E.2.1 1, 8, .inl (nd))), (ab, .inl (E.2.1 1, 8, .inl (br))), (av, .inl (E.2.1 1, 6, .inl (wo))), (c0, .inr (2, [.int (nI nt2), .int (nI pp2), .int (nI rl2), .int (hm2), .int (sp2), .int (td2), .int (dt2), .ref co, .ref cw, .ref cn, .ref cb, .ref cv])), (co, .inl (E.2.1 1, 8, .inl (on2))), (cw, .inl (E.2.1 1, 8, .inl (wr2))), (cn, .inl (E.2.1 1, 8, .inl (nd2))), (cb, .inl (E.2.1 1, 8, .inl (br2))), (cv, .inl (E.2.1 1, 6, .inl (wo2)))]) 8 8 2 dX2_become_83 tb_434 tb_436 tb_435 tb_69 rfl rfl rfl rfl (by decide) (by decide) (by decide) (by decide +kernel) rfl ?_
  refine v_aload_n (pc := 86) 1 dX2_become_86 rfl rfl ?_
  refine gf_117 (pc := 87) 6 dX2_become_87 rfl rfl ?_
  refine v_iconst (pc := 90) (v := 0) dX2_become_90 (by decide) ?_
  refine v_aload_n (pc := 91) 0 dX2_become_91 rfl rfl ?_
  refine gf_117 (pc := 92) 0 dX2_become_92 rfl rfl ?_
  refine v_iconst (pc := 95) (v := 0) dX2_become_95 (by decide) ?_
  refine v_bipush (pc := 96) (v := 8) dX2_become_96 (by decide) ?_
  refine v_copy0 (pc := 98) (ws' := [(a0, .inr (2, [.int (nI nt2), .int (nI pp2), .int (nI rl2), .int (hm2), .int (sp2), .int (td2), .int (dt2), .ref ao, .ref aw, .ref an, .ref ab, .ref av])), (ao, .inl (E.2.1 1, 8, .inl (va_cpy (on2) (on) 0 0 8))), (aw, .inl (E.2.1 1, 8, .inl (va_cpy (wr2) (wr) 0 0 8))), (an, .inl (E.2.1 1, 8, .inl (va_cpy (nd2) (nd) 0 0 8))), (ab, .inl (E.2.1 1, 8, .inl (br))), (av, .inl (E.2.1 1, 6, .inl (wo))), (c0, .inr (2, [.int (nI nt2), .int (nI pp2), .int (nI rl2), .int (hm2), .int (sp2), .int (td2), .int (dt2), .ref co, .ref cw, .ref cn, .ref cb, .ref cv])), (co, .inl (E.2.1 1, 8, .inl (on2))), (cw, .inl (E.2.1 1, 8, .inl (wr2))), (cn, .inl (E.2.1 1, 8, .inl (nd2))), (cb, .inl (E.2.1 1, 8, .inl (br2))), (cv, .inl (E.2.1 1, 6, .inl (wo2)))]) 8 9 3 dX2_become_98 tb_434 tb_436 tb_435 tb_69 rfl rfl rfl rfl (by decide) (by decide) (by decide) (by decide +kernel) rfl ?_
  refine v_aload_n (pc := 101) 1 dX2_become_101 rfl rfl ?_
  refine gf_120 (pc := 102) 6 dX2_become_102 rfl rfl ?_
  refine v_iconst (pc := 105) (v := 0) dX2_become_105 (by decide) ?_
  refine v_aload_n (pc := 106) 0 dX2_become_106 rfl rfl ?_
  refine gf_120 (pc := 107) 0 dX2_become_107 rfl rfl ?_
  refine v_iconst (pc := 110) (v := 0) dX2_become_110 (by decide) ?_
  refine v_bipush (pc := 111) (v := 8) dX2_become_111 (by decide) ?_
  refine v_copy0 (pc := 113) (ws' := [(a0, .inr (2, [.int (nI nt2), .int (nI pp2), .int (nI rl2), .int (hm2), .int (sp2), .int (td2), .int (dt2), .ref ao, .ref aw, .ref an, .ref ab, .ref av])), (ao, .inl (E.2.1 1, 8, .inl (va_cpy (on2) (on) 0 0 8))), (aw, .inl (E.2.1 1, 8, .inl (va_cpy (wr2) (wr) 0 0 8))), (an, .inl (E.2.1 1, 8, .inl (va_cpy (nd2) (nd) 0 0 8))), (ab, .inl (E.2.1 1, 8, .inl (va_cpy (br2) (br) 0 0 8))), (av, .inl (E.2.1 1, 6, .inl (wo))), (c0, .inr (2, [.int (nI nt2), .int (nI pp2), .int (nI rl2), .int (hm2), .int (sp2), .int (td2), .int (dt2), .ref co, .ref cw, .ref cn, .ref cb, .ref cv])), (co, .inl (E.2.1 1, 8, .inl (on2))), (cw, .inl (E.2.1 1, 8, .inl (wr2))), (cn, .inl (E.2.1 1, 8, .inl (nd2))), (cb, .inl (E.2.1 1, 8, .inl (br2))), (cv, .inl (E.2.1 1, 6, .inl (wo2)))]) 8 10 4 dX2_become_113 tb_434 tb_436 tb_435 tb_69 rfl rfl rfl rfl (by decide) (by decide) (by decide) (by decide +kernel) rfl ?_
  refine v_aload_n (pc := 116) 1 dX2_become_116 rfl rfl ?_
  refine gf_123 (pc := 117) 6 dX2_become_117 rfl rfl ?_
  refine v_iconst (pc := 120) (v := 0) dX2_become_120 (by decide) ?_
  refine v_aload_n (pc := 121) 0 dX2_become_121 rfl rfl ?_
  refine gf_123 (pc := 122) 0 dX2_become_122 rfl rfl ?_
  refine v_iconst (pc := 125) (v := 0) dX2_become_125 (by decide) ?_
  refine v_bipush (pc := 126) (v := 6) dX2_become_126 (by decide) ?_
  refine v_copy0 (pc := 128) (ws' := [(a0, .inr (2, [.int (nI nt2), .int (nI pp2), .int (nI rl2), .int (hm2), .int (sp2), .int (td2), .int (dt2), .ref ao, .ref aw, .ref an, .ref ab, .ref av])), (ao, .inl (E.2.1 1, 8, .inl (va_cpy (on2) (on) 0 0 8))), (aw, .inl (E.2.1 1, 8, .inl (va_cpy (wr2) (wr) 0 0 8))), (an, .inl (E.2.1 1, 8, .inl (va_cpy (nd2) (nd) 0 0 8))), (ab, .inl (E.2.1 1, 8, .inl (va_cpy (br2) (br) 0 0 8))), (av, .inl (E.2.1 1, 6, .inl (va_cpy (wo2) (wo) 0 0 6))), (c0, .inr (2, [.int (nI nt2), .int (nI pp2), .int (nI rl2), .int (hm2), .int (sp2), .int (td2), .int (dt2), .ref co, .ref cw, .ref cn, .ref cb, .ref cv])), (co, .inl (E.2.1 1, 8, .inl (on2))), (cw, .inl (E.2.1 1, 8, .inl (wr2))), (cn, .inl (E.2.1 1, 8, .inl (nd2))), (cb, .inl (E.2.1 1, 8, .inl (br2))), (cv, .inl (E.2.1 1, 6, .inl (wo2)))]) 6 11 5 dX2_become_128 tb_434 tb_436 tb_435 tb_69 rfl rfl rfl rfl (by decide) (by decide) (by decide) (by decide +kernel) rfl ?_
  refine v_vret (pc := 131) dX2_become_131 rfl ⟨rfl, rfl⟩ (Rt.w ?_)
  rfl
