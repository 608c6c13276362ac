/-! numbers -/
def pcn (c : Nat) : Nat := c % 2 + c / 2 % 2 + c / 4 % 2 + c / 8 % 2 + c / 16 % 2 + c / 32 % 2 + c / 64 % 2 + c / 128 % 2
theorem pcn_all : ∀ c : Nat, c < 256 → bci (nI c) = nI (pcn c) := by decide +kernel
theorem pcn_8 (c : Nat) : pcn c ≤ 8 := by unfold pcn; omega
theorem pcn_le : ∀ rl : Nat, rl < 9 → ∀ c : Nat, c < 2 ^ rl → pcn c ≤ rl := by decide +kernel
theorem pow_rl {rl : Nat} (h : rl ≤ 8) : 2 ^ rl ≤ 256 := Nat.pow_le_pow_right (by decide) h
theorem lN0 {r : Nat} (h : r < 2 ^ 63) : lN r = 0 ↔ r = 0 := by
  have := pk_lEQ (a := r) (b := 0) h (by omega)
  exact this
theorem okN_ex {x : Int32} {b : Nat} (h : okN x b) (hb : b < 2 ^ 31) : ∃ j, j < b ∧ x = nI j := by
  rcases pk_ix x (n := b) hb with q | q | q
  · exact absurd q h.1
  · exact absurd q h.2
  · exact q
theorem le_ex {x : Int32} {b : Nat} (h1 : ¬ x < 0) (h2 : ¬ nI b < x) (hb : b < 2 ^ 30) : ∃ j, j ≤ b ∧ x = nI j := by
  rcases pk_ix x (n := b + 1) (by omega) with q | q | ⟨j, hj, rfl⟩
  · exact absurd q h1
  · exfalso
    apply h2
    have h3 : nI b < nI (b + 1) := nI_lt (by omega) (by omega)
    exact Int32.lt_of_lt_of_le h3 q
  · exact ⟨j, by omega, rfl⟩
def measN (x : Int64) (kind : Int32) (n : Nat) : Nat := (meas x kind n).toBitVec.toNat
theorem meas_N (x : Int64) (kind : Int32) (n : Nat) : meas x kind n = nI (measN x kind n) ∧ measN x kind n < 128 := by
  have h : ∃ m, m < 128 ∧ meas x kind n = nI m := by
    unfold meas
    split
    · split
      · exact ⟨0, by decide, rfl⟩
      · exact ⟨1, by decide, rfl⟩
    · split
      · split
        · exact ⟨1, by decide, rfl⟩
        · exact ⟨0, by decide, rfl⟩
      · unfold bcl
        obtain ⟨j, hj, e⟩ := pk_andE ((bcl6 (bcl5 (bcl4 (bcl3 (bcl2 (bcl1 x)))))).toInt32) (m := 127) 7 (by decide)
        exact ⟨j, by omega, e⟩
  obtain ⟨m, hm, e⟩ := h
  unfold measN
  rw [e, pk_tn (by omega)]
  exact ⟨rfl, hm⟩
def wgt (v rl c : Nat) : Nat := (10 - v) ^ pcn c * v ^ (rl - pcn c)
theorem wgt_le {v rl c : Nat} (hv : v ≤ 10) (hr : rl ≤ 8) (hc : c < 2 ^ rl) : wgt v rl c ≤ 100000000 := by
  unfold wgt
  have h1 : (10 - v) ^ pcn c ≤ 10 ^ pcn c := Nat.pow_le_pow_left (by omega) _
  have h2 : v ^ (rl - pcn c) ≤ 10 ^ (rl - pcn c) := Nat.pow_le_pow_left hv _
  have h3 : pcn c ≤ rl := pcn_le rl (by omega) c hc
  calc (10 - v) ^ pcn c * v ^ (rl - pcn c) ≤ 10 ^ pcn c * 10 ^ (rl - pcn c) := Nat.mul_le_mul h1 h2
    _ = 10 ^ rl := by rw [← Nat.pow_add]; congr 1; omega
    _ ≤ 10 ^ 8 := Nat.pow_le_pow_right (by decide) hr
def expN (v rl : Nat) (f : Nat → Nat) : Nat → Nat
  | 0 => 0
  | n + 1 => expN v rl f n + wgt v rl n * f n
theorem expN_le {v rl : Nat} {f : Nat → Nat} (hv : v ≤ 10) (hr : rl ≤ 8) (hf : ∀ c, f c < 128) : ∀ n, n ≤ 2 ^ rl → expN v rl f n ≤ n * 12800000000 := by
  intro n
  induction n with
  | zero => intro _; simp [expN]
  | succ n ih =>
    intro hn
    have h1 := ih (by omega)
    have h2 := wgt_le hv hr (c := n) (by omega)
    have h3 : wgt v rl n * f n ≤ 100000000 * 128 := Nat.mul_le_mul h2 (by have := hf n; omega)
    simp only [expN]
    omega
theorem euc {d r : Nat} (h : r ≤ d) (h0 : 0 < r) : 2 * (d % r) ≤ d := by
  have h1 := Nat.div_add_mod d r
  have h2 := Nat.mod_lt d h0
  have h3 : 0 < d / r := Nat.div_pos h h0
  have h4 : r * 1 ≤ r * (d / r) := Nat.mul_le_mul_left r h3
  omega
theorem euc2 {d r i P : Nat} (h : r ≤ d) (h0 : 0 < r) (hp : d * r * 2 ^ i ≤ P) : r * (d % r) * 2 ^ (i + 1) ≤ P := by
  have h1 := euc h h0
  calc r * (d % r) * 2 ^ (i + 1) = r * (2 * (d % r)) * 2 ^ i := by rw [Nat.pow_succ]; ac_rfl
    _ ≤ r * d * 2 ^ i := Nat.mul_le_mul_right _ (Nat.mul_le_mul_left _ h1)
    _ = d * r * 2 ^ i := by ac_rfl
    _ ≤ P := hp
theorem euc3 {d r P : Nat} (hd : 0 < d) (hp : d * r * 2 ^ 99 ≤ P) (hP : P < 2 ^ 90) : r = 0 := by
  rcases Nat.eq_zero_or_pos r with h | h
  · exact h
  · exfalso
    have h1 : 1 * 2 ^ 99 ≤ d * r * 2 ^ 99 := Nat.mul_le_mul_right _ (Nat.mul_pos hd h)
    have h2 : (2 : Nat) ^ 90 < 2 ^ 99 := by decide
    omega
def lowT (a b : Nat) (w : Int32) : Int64 := lN ((if w = 0 then a else b) / Nat.gcd a b)
abbrev fewP (m b : Int32) : Prop := b = -4 ∨ ¬ bci b ≤ bci m
theorem c_X4_isFewer (l : Launch) (E : VE) (m : Int32) (b : Int32) : Ct l E yX4_isFewer cX4_isFewer 2 (Option.some FieldType.boolean) 1 20 0 0 [.int (m), .int (b)] [] (Rt (some (.int (if fewP m b then 1 else 0))) []) := by
  refine Ct.of (own := RX4) (nm := "isFewer") (lv := [(0, .int (m)), (1, .int (b))]) (by decide) rfl rfl (Nat.le_of_ble_eq_true rfl) rfl ?_
  refine v_iload_n (pc := 0) 1 dX4_isFewer_0 rfl rfl ?_
  refine v_bipush (pc := 1) (v := -4) dX4_isFewer_1 (by decide) ?_
  refine v_icmp_eq (pc := 3) 17 dX4_isFewer_3 (by decide) (fun c_3 => ?_) (fun c_3 => ?_)
  · skip
    refine v_iconst (pc := 17) (v := 1) dX4_isFewer_17 (by decide) ?_
    refine v_goto (pc := 18) 22 dX4_isFewer_18 (by decide) ?_
    refine v_zret (pc := 22) dX4_isFewer_22 rfl rfl ⟨rfl, rfl⟩ (Rt.i ?_)
    exact (if_pos (Or.inl c_3)).symm
  · skip
    refine v_iload_n (pc := 6) 0 dX4_isFewer_6 rfl rfl ?_
    refine v_callS (pc := 7) (rest := []) [] lk_636 (c_J6_bitCount_0f7a4 l E m) dX4_isFewer_7 rfl rfl (Nat.le_of_ble_eq_true rfl) (by decide) (by decide) rfl (Rt.len rfl) (Rt.go ?_)
    refine v_w (ws' := []) rfl ?_
    refine v_st (st' := [.int (bci m)]) rfl ?_
    refine v_iload_n (pc := 10) 1 dX4_isFewer_10 rfl rfl ?_
    refine v_callS (pc := 11) (rest := [.int (bci m)]) [] lk_636 (c_J6_bitCount_0f7a4 l E b) dX4_isFewer_11 rfl rfl (Nat.le_of_ble_eq_true rfl) (by decide) (by decide) rfl (Rt.len rfl) (Rt.go ?_)
    refine v_w (ws' := []) rfl ?_
    refine v_st (st' := [.int (bci b), .int (bci m)]) rfl ?_
    refine v_icmp_ge (pc := 14) 21 dX4_isFewer_14 (by decide) (fun c_14 => ?_) (fun c_14 => ?_)
    · skip
      refine v_iconst (pc := 21) (v := 0) dX4_isFewer_21 (by decide) ?_
      refine v_zret (pc := 22) dX4_isFewer_22 rfl rfl ⟨rfl, rfl⟩ (Rt.i ?_)
      exact (if_neg (fun q => q.elim c_3 (fun q => q c_14))).symm
    · skip
      refine v_iconst (pc := 17) (v := 1) dX4_isFewer_17 (by decide) ?_
      refine v_goto (pc := 18) 22 dX4_isFewer_18 (by decide) ?_
      refine v_zret (pc := 22) dX4_isFewer_22 rfl rfl ⟨rfl, rfl⟩ (Rt.i ?_)
      exact (if_pos (Or.inr c_14)).symm
theorem c_X4_power (l : Launch) (E : VE) (b : Nat) (t : Nat) (h_t : t < 2 ^ 31) : Ct l E yX4_power cX4_power 6 (Option.some FieldType.long) 0 0 0 0 [.long (lN b), .int (nI t)] [] (Rt (some (.long (lN (b ^ t)))) []) := by
  refine Ct.of (own := RX4) (nm := "power") (lv := [(0, .long (lN b)), (2, .int (nI t))]) (by decide) rfl rfl (Nat.le_of_ble_eq_true rfl) rfl ?_
  refine v_lconst (pc := 0) (v := 1) dX4_power_0 (by decide) ?_
  refine v_lstore_n (pc := 1) (lv' := [(3, .long (1)), (0, .long (lN b)), (2, .int (nI t))]) dX4_power_1 rfl (by decide) rfl ?_
  refine v_iconst (pc := 2) (v := 0) dX4_power_2 (by decide) ?_
  refine v_istore (pc := 3) (lv' := [(5, .int (0)), (3, .long (1)), (0, .long (lN b)), (2, .int (nI t))]) dX4_power_3 (by decide) rfl ?_
  have loop_5 : ∀ (D_5 : Nat) (i : Nat) (acc : Int64), t - i < D_5 → (i ≤ t) → (acc = lN (b ^ i)) → V l E RX4 cX4_power 6 (Option.some FieldType.long) "power" ({ frames := 0, cells := 0, slots := 0, locals := 0 }) [] 0 0 (Rt (some (.long (lN (b ^ t)))) []) 0 0 5 [(5, .int (nI i)), (3, .long (acc)), (0, .long (lN b)), (2, .int (nI t))] [] [] := by
    intro D_5
    induction D_5 with
    | zero => intro i acc h; exact absurd h (Nat.not_lt_zero _)
    | succ D_5 ih_5 =>
      intro i acc hmu_5 h_5_0 h_5_1
      refine v_iload (pc := 5) 0 dX4_power_5 rfl ?_
      refine v_iload_n (pc := 7) 3 dX4_power_7 rfl rfl ?_
      refine v_cmpN_ge (pc := 8) (a := i) (b := t) 21 dX4_power_8 (by decide) (by omega) (by omega) (fun c_8 => ?_) (fun c_8 => ?_)
      · skip
        refine v_lload_n (pc := 21) 1 dX4_power_21 rfl rfl ?_
        refine v_lret (pc := 22) dX4_power_22 rfl ⟨rfl, rfl⟩ (Rt.lg ?_)
        obtain rfl : i = t := by omega
        exact h_5_1
      · skip
        refine v_lload_n (pc := 11) 1 dX4_power_11 rfl rfl ?_
        refine v_lload_n (pc := 12) 2 dX4_power_12 rfl rfl ?_
        refine v_lmul (pc := 13) dX4_power_13 ?_
        rw [h_5_1]
        refine v_st (st' := [.long (lN (b ^ i * b))]) (by rw [lN_mul]) ?_
        refine v_lstore_n (pc := 14) (lv' := [(3, .long (lN (b ^ i * b))), (5, .int (nI i)), (0, .long (lN b)), (2, .int (nI t))]) dX4_power_14 rfl (by decide) rfl ?_
        refine v_iinc (pc := 15) (v := nI (i + 1)) (lv' := [(5, .int (nI (i + 1))), (3, .long (lN (b ^ i * b))), (0, .long (lN b)), (2, .int (nI t))]) 1 dX4_power_15 rfl (nI_inc (i) 1) (by decide) rfl ?_
        refine v_goto (pc := 18) 5 dX4_power_18 (by decide) ?_
        refine v_lv (lv' := [(5, .int (nI (i + 1))), (3, .long (lN (b ^ i * b))), (0, .long (lN b)), (2, .int (nI t))]) [0, 1, 2, 3] rfl ?_
        refine ih_5 (i + 1) (lN (b ^ i * b)) (by omega) ?_ ?_
        · omega
        · rfl
  refine v_lv (lv' := [(5, .int (nI 0)), (3, .long (1)), (0, .long (lN b)), (2, .int (nI t))]) [0, 1, 2, 3] rfl ?_
  refine loop_5 ((t - 0) + 1) 0 1 (Nat.lt_succ_self _) ?_ ?_
  · omega
  · rfl
theorem c_X4_inLowestTerms (l : Launch) (E : VE) (a : Nat) (b : Nat) (w : Int32) (h_b : 0 < b) (h_a : a < 2 ^ 50) (h_c : b < 2 ^ 40) : Ct l E yX4_inLowestTerms cX4_inLowestTerms 12 (Option.some FieldType.long) 0 0 0 0 [.long (lN a), .long (lN b), .int (w)] [] (Rt (some (.long (lowT a b w))) []) := by
  refine Ct.of (own := RX4) (nm := "inLowestTerms") (lv := [(0, .long (lN a)), (2, .long (lN b)), (4, .int (w))]) (by decide) rfl rfl (Nat.le_of_ble_eq_true rfl) rfl ?_
  refine v_lload_n (pc := 0) 1 dX4_inLowestTerms_0 rfl rfl ?_
  refine v_lstore (pc := 1) (lv' := [(5, .long (lN b)), (0, .long (lN a)), (2, .long (lN b)), (4, .int (w))]) dX4_inLowestTerms_1 (by decide) rfl ?_
  refine v_lload_n (pc := 3) 1 dX4_inLowestTerms_3 rfl rfl ?_
  refine v_lstore (pc := 4) (lv' := [(7, .long (lN a)), (5, .long (lN b)), (0, .long (lN a)), (2, .long (lN b)), (4, .int (w))]) dX4_inLowestTerms_4 (by decide) rfl ?_
  refine v_iconst (pc := 6) (v := 0) dX4_inLowestTerms_6 (by decide) ?_
  refine v_istore (pc := 7) (lv' := [(9, .int (0)), (7, .long (lN a)), (5, .long (lN b)), (0, .long (lN a)), (2, .long (lN b)), (4, .int (w))]) dX4_inLowestTerms_7 (by decide) rfl ?_
  have loop_9 : ∀ (D_9 : Nat) (i : Nat) (d : Nat) (r : Nat), 100 - i < D_9 → (i ≤ 100) → (0 < d) → (d < 2 ^ 50 ∧ r < 2 ^ 50) → (Nat.gcd d r = Nat.gcd a b) → ((i = 0 ∧ d = b ∧ r = a) ∨ (∃ k, i = k + 1 ∧ r < d ∧ d * r * 2 ^ k ≤ a * b)) → V l E RX4 cX4_inLowestTerms 12 (Option.some FieldType.long) "inLowestTerms" ({ frames := 0, cells := 0, slots := 0, locals := 0 }) [] 0 0 (Rt (some (.long (lowT a b w))) []) 0 0 9 [(9, .int (nI i)), (5, .long (lN d)), (7, .long (lN r)), (0, .long (lN a)), (2, .long (lN b)), (4, .int (w))] [] [] := by
    intro D_9
    induction D_9 with
    | zero => intro i d r h; exact absurd h (Nat.not_lt_zero _)
    | succ D_9 ih_9 =>
      intro i d r hmu_9 h_9_0 h_9_1 h_9_2 h_9_3 h_9_4
      refine v_iload (pc := 9) 0 dX4_inLowestTerms_9 rfl ?_
      refine v_bipush (pc := 11) (v := 100) dX4_inLowestTerms_11 (by decide) ?_
      refine v_cmpN_ge (pc := 13) (a := i) (b := 100) 44 dX4_inLowestTerms_13 (by decide) (by omega) (by omega) (fun c_13 => ?_) (fun c_13 => ?_)
      · skip
        have hr1 : r = 0 := by
          first | exact (lN0 (by omega)).mp c_20 | (rcases h_9_4 with ⟨h1, h2, h3⟩ | ⟨k, h1, h2, h3⟩; omega; exact euc3 (P := a * b) h_9_1 (by have e : k = 99 := (by omega); subst e; exact h3) (Nat.lt_of_lt_of_le (Nat.mul_lt_mul_of_lt_of_lt h_a h_c) (by decide)))
        have hg : d = Nat.gcd a b := by rw [← h_9_3, hr1, Nat.gcd_zero_right]
        refine v_lload (pc := 44) 1 dX4_inLowestTerms_44 rfl ?_
        refine v_lconst (pc := 46) (v := 0) dX4_inLowestTerms_46 (by decide) ?_
        refine v_lcmp (pc := 47) dX4_inLowestTerms_47 ?_
        refine v_lc_ne (pc := 48) 55 dX4_inLowestTerms_48 (by decide) (fun c_48 => ?_) (fun c_48 => ?_)
        · skip
          refine v_iload (pc := 55) 5 dX4_inLowestTerms_55 rfl ?_
          refine v_if_ne (pc := 57) 64 dX4_inLowestTerms_57 (by decide) (fun c_57 => ?_) (fun c_57 => ?_)
          · skip
            refine v_lload_n (pc := 64) 4 dX4_inLowestTerms_64 rfl rfl ?_
            refine v_lload (pc := 65) 1 dX4_inLowestTerms_65 rfl ?_
            refine v_ldiv (pc := 67) dX4_inLowestTerms_67 (fun z => absurd ((lN0 (by omega)).mp z) (by omega)) ?_
            refine v_lret (pc := 68) dX4_inLowestTerms_68 rfl ⟨rfl, rfl⟩ (Rt.lg ?_)
            unfold lowT; rw [← hg, if_neg c_57, pk_lDiv (by omega) (by omega) (by omega)]
          · skip
            refine v_lload_n (pc := 60) 3 dX4_inLowestTerms_60 rfl rfl ?_
            refine v_goto (pc := 61) 65 dX4_inLowestTerms_61 (by decide) ?_
            refine v_lload (pc := 65) 1 dX4_inLowestTerms_65 rfl ?_
            refine v_ldiv (pc := 67) dX4_inLowestTerms_67 (fun z => absurd ((lN0 (by omega)).mp z) (by omega)) ?_
            refine v_lret (pc := 68) dX4_inLowestTerms_68 rfl ⟨rfl, rfl⟩ (Rt.lg ?_)
            unfold lowT; rw [← hg, if_pos c_57, pk_lDiv (by omega) (by omega) (by omega)]
        · skip
          refine v_ldc2 (pc := 51) dX4_inLowestTerms_51 tb_585 ?_
          refine v_lret (pc := 54) dX4_inLowestTerms_54 rfl ⟨rfl, rfl⟩ (Rt.lg ?_)
          exact absurd ((lN0 (by omega)).mp c_48) (by omega)
      · skip
        refine v_lload (pc := 16) 2 dX4_inLowestTerms_16 rfl ?_
        refine v_lconst (pc := 18) (v := 0) dX4_inLowestTerms_18 (by decide) ?_
        refine v_lcmp (pc := 19) dX4_inLowestTerms_19 ?_
        refine v_lc_eq (pc := 20) 44 dX4_inLowestTerms_20 (by decide) (fun c_20 => ?_) (fun c_20 => ?_)
        · skip
          have hr1 : r = 0 := by
            first | exact (lN0 (by omega)).mp c_20 | (rcases h_9_4 with ⟨h1, h2, h3⟩ | ⟨k, h1, h2, h3⟩; omega; exact euc3 (P := a * b) h_9_1 (by have e : k = 99 := (by omega); subst e; exact h3) (Nat.lt_of_lt_of_le (Nat.mul_lt_mul_of_lt_of_lt h_a h_c) (by decide)))
          have hg : d = Nat.gcd a b := by rw [← h_9_3, hr1, Nat.gcd_zero_right]
          refine v_lload (pc := 44) 1 dX4_inLowestTerms_44 rfl ?_
          refine v_lconst (pc := 46) (v := 0) dX4_inLowestTerms_46 (by decide) ?_
          refine v_lcmp (pc := 47) dX4_inLowestTerms_47 ?_
          refine v_lc_ne (pc := 48) 55 dX4_inLowestTerms_48 (by decide) (fun c_48 => ?_) (fun c_48 => ?_)
          · skip
            refine v_iload (pc := 55) 5 dX4_inLowestTerms_55 rfl ?_
            refine v_if_ne (pc := 57) 64 dX4_inLowestTerms_57 (by decide) (fun c_57 => ?_) (fun c_57 => ?_)
            · skip
              refine v_lload_n (pc := 64) 4 dX4_inLowestTerms_64 rfl rfl ?_
              refine v_lload (pc := 65) 1 dX4_inLowestTerms_65 rfl ?_
              refine v_ldiv (pc := 67) dX4_inLowestTerms_67 (fun z => absurd ((lN0 (by omega)).mp z) (by omega)) ?_
              refine v_lret (pc := 68) dX4_inLowestTerms_68 rfl ⟨rfl, rfl⟩ (Rt.lg ?_)
              unfold lowT; rw [← hg, if_neg c_57, pk_lDiv (by omega) (by omega) (by omega)]
            · skip
              refine v_lload_n (pc := 60) 3 dX4_inLowestTerms_60 rfl rfl ?_
              refine v_goto (pc := 61) 65 dX4_inLowestTerms_61 (by decide) ?_
              refine v_lload (pc := 65) 1 dX4_inLowestTerms_65 rfl ?_
              refine v_ldiv (pc := 67) dX4_inLowestTerms_67 (fun z => absurd ((lN0 (by omega)).mp z) (by omega)) ?_
              refine v_lret (pc := 68) dX4_inLowestTerms_68 rfl ⟨rfl, rfl⟩ (Rt.lg ?_)
              unfold lowT; rw [← hg, if_pos c_57, pk_lDiv (by omega) (by omega) (by omega)]
          · skip
            refine v_ldc2 (pc := 51) dX4_inLowestTerms_51 tb_585 ?_
            refine v_lret (pc := 54) dX4_inLowestTerms_54 rfl ⟨rfl, rfl⟩ (Rt.lg ?_)
            exact absurd ((lN0 (by omega)).mp c_48) (by omega)
        · skip
          have hr0 : 0 < r := Nat.pos_of_ne_zero (fun z => c_20 ((lN0 (by omega)).mpr z))
          refine v_lload (pc := 23) 1 dX4_inLowestTerms_23 rfl ?_
          refine v_lload (pc := 25) 2 dX4_inLowestTerms_25 rfl ?_
          refine v_lrem (pc := 27) dX4_inLowestTerms_27 (fun z => c_20 z) ?_
          refine v_st (st' := [.long (lN (d % r))]) (by rw [pk_lRem (by omega) hr0 (by omega)]) ?_
          refine v_lstore (pc := 28) (lv' := [(10, .long (lN (d % r))), (9, .int (nI i)), (5, .long (lN d)), (7, .long (lN r)), (0, .long (lN a)), (2, .long (lN b)), (4, .int (w))]) dX4_inLowestTerms_28 (by decide) rfl ?_
          refine v_lload (pc := 30) 3 dX4_inLowestTerms_30 rfl ?_
          refine v_lstore (pc := 32) (lv' := [(5, .long (lN r)), (10, .long (lN (d % r))), (9, .int (nI i)), (7, .long (lN r)), (0, .long (lN a)), (2, .long (lN b)), (4, .int (w))]) dX4_inLowestTerms_32 (by decide) rfl ?_
          refine v_lload (pc := 34) 1 dX4_inLowestTerms_34 rfl ?_
          refine v_lstore (pc := 36) (lv' := [(7, .long (lN (d % r))), (5, .long (lN r)), (10, .long (lN (d % r))), (9, .int (nI i)), (0, .long (lN a)), (2, .long (lN b)), (4, .int (w))]) dX4_inLowestTerms_36 (by decide) rfl ?_
          refine v_iinc (pc := 38) (v := nI (i + 1)) (lv' := [(9, .int (nI (i + 1))), (7, .long (lN (d % r))), (5, .long (lN r)), (10, .long (lN (d % r))), (0, .long (lN a)), (2, .long (lN b)), (4, .int (w))]) 3 dX4_inLowestTerms_38 rfl (nI_inc (i) 1) (by decide) rfl ?_
          refine v_goto (pc := 41) 9 dX4_inLowestTerms_41 (by decide) ?_
          refine v_lv (lv' := [(9, .int (nI (i + 1))), (5, .long (lN r)), (7, .long (lN (d % r))), (0, .long (lN a)), (2, .long (lN b)), (4, .int (w))]) [0, 2, 1, 4, 5, 6] rfl ?_
          refine ih_9 (i + 1) r (d % r) (by omega) ?_ ?_ ?_ ?_ ?_
          · omega
          · omega
          · have := Nat.mod_lt d hr0
            omega
          · rw [Nat.gcd_comm r, ← Nat.gcd_rec r d, Nat.gcd_comm r d]; exact h_9_3
          · refine Or.inr ⟨i, rfl, Nat.mod_lt d hr0, ?_⟩
            rcases h_9_4 with ⟨h1, h2, h3⟩ | ⟨k, h1, h2, h3⟩
            · subst h1 h2 h3; rw [Nat.pow_zero, Nat.mul_one]; exact Nat.mul_le_mul_left _ (Nat.mod_le _ _)
            · subst h1; exact euc2 (by omega) hr0 h3
  refine v_lv (lv' := [(9, .int (nI 0)), (5, .long (lN b)), (7, .long (lN a)), (0, .long (lN a)), (2, .long (lN b)), (4, .int (w))]) [0, 2, 1, 3, 4, 5] rfl ?_
  refine loop_9 ((100 - 0) + 1) 0 b a (Nat.lt_succ_self _) ?_ ?_ ?_ ?_ ?_
  · omega
  · exact h_b
  · omega
  · exact Nat.gcd_comm b a
  · exact Or.inl ⟨rfl, rfl, rfl⟩
theorem c_X4_measure (l : Launch) (E : VE) (x : Int64) (kd : Int32) (n : Nat) (h_n : n < 6) : Ct l E yX4_measure cX4_measure 4 (Option.some FieldType.int) 1 21 0 0 [.long (x), .int (kd), .int (nI n)] [] (Rt (some (.int (meas x kd n))) []) := by
  refine Ct.of (own := RX4) (nm := "measure") (lv := [(0, .long (x)), (2, .int (kd)), (3, .int (nI n))]) (by decide) rfl rfl (Nat.le_of_ble_eq_true rfl) rfl ?_
  refine v_iload_n (pc := 0) 1 dX4_measure_0 rfl rfl ?_
  by_cases c_1_0 : kd = 0
  · skip
    refine v_lookup (pc := 1) (off := 27) 28 dX4_measure_1 (by decide) (by rw [c_1_0]; decide) (by decide) ?_
    refine v_lload_n (pc := 28) 0 dX4_measure_28 rfl rfl ?_
    refine v_gsHV (pc := 29) dX4_measure_29 tb_584 ?_
    refine v_iload_n (pc := 32) 2 dX4_measure_32 rfl rfl ?_
    refine v_tlHVN (pc := 33) (n) dX4_measure_33 rfl (by omega) ?_
    refine v_land (pc := 34) dX4_measure_34 ?_
    refine v_lconst (pc := 35) (v := 0) dX4_measure_35 (by decide) ?_
    refine v_lcmp (pc := 36) dX4_measure_36 ?_
    refine v_lc_eq (pc := 37) 44 dX4_measure_37 (by decide) (fun c_37 => ?_) (fun c_37 => ?_)
    · skip
      refine v_iconst (pc := 44) (v := 0) dX4_measure_44 (by decide) ?_
      refine v_iret (pc := 45) dX4_measure_45 rfl ⟨rfl, rfl⟩ (Rt.i ?_)
      unfold meas; simp only [↓reduceIte, c_1_0]; first | exact (if_pos c_37).symm | exact (if_neg c_37).symm
    · skip
      refine v_iconst (pc := 40) (v := 1) dX4_measure_40 (by decide) ?_
      refine v_goto (pc := 41) 45 dX4_measure_41 (by decide) ?_
      refine v_iret (pc := 45) dX4_measure_45 rfl ⟨rfl, rfl⟩ (Rt.i ?_)
      unfold meas; simp only [↓reduceIte, c_1_0]; first | exact (if_pos c_37).symm | exact (if_neg c_37).symm
  by_cases c_1_1 : kd = 1
  · skip
    refine v_lookup (pc := 1) (off := 45) 46 dX4_measure_1 (by decide) (by rw [c_1_1]; decide) (by decide) ?_
    refine v_lload_n (pc := 46) 0 dX4_measure_46 rfl rfl ?_
    refine v_lconst (pc := 47) (v := 0) dX4_measure_47 (by decide) ?_
    refine v_lcmp (pc := 48) dX4_measure_48 ?_
    refine v_lc_ne (pc := 49) 56 dX4_measure_49 (by decide) (fun c_49 => ?_) (fun c_49 => ?_)
    · skip
      refine v_iconst (pc := 56) (v := 0) dX4_measure_56 (by decide) ?_
      refine v_iret (pc := 57) dX4_measure_57 rfl ⟨rfl, rfl⟩ (Rt.i ?_)
      unfold meas; simp only [↓reduceIte, c_1_1]; first | exact (if_pos c_49).symm | exact (if_neg c_49).symm
    · skip
      refine v_iconst (pc := 52) (v := 1) dX4_measure_52 (by decide) ?_
      refine v_goto (pc := 53) 57 dX4_measure_53 (by decide) ?_
      refine v_iret (pc := 57) dX4_measure_57 rfl ⟨rfl, rfl⟩ (Rt.i ?_)
      unfold meas; simp only [↓reduceIte, c_1_1]; first | exact (if_pos c_49).symm | exact (if_neg c_49).symm
  refine v_lookup (pc := 1) (off := 57) 58 dX4_measure_1 (by decide) (by rw [lv_osw c_1_0 (by decide)]; rw [lv_osw c_1_1 (by decide)]; rfl) (by decide) ?_
  refine v_lload_n (pc := 58) 0 dX4_measure_58 rfl rfl ?_
  refine v_callS (pc := 59) (rest := []) [] lk_565 (c_J13_bitCount_95d88 l E x) dX4_measure_59 rfl rfl (Nat.le_of_ble_eq_true rfl) (by decide) (by decide) rfl (Rt.len rfl) (Rt.go ?_)
  refine v_w (ws' := []) rfl ?_
  refine v_st (st' := [.int (bcl x)]) rfl ?_
  refine v_iret (pc := 62) dX4_measure_62 rfl ⟨rfl, rfl⟩ (Rt.i ?_)
  unfold meas; simp only [↓reduceIte, c_1_0, c_1_1]
theorem c_X4_weightOf (l : Launch) (E : VE) (y0 : Nat) (yi : Nat) (yk : Nat) (t0 : Nat) (yn : Nat) (yt : Nat) (ys : Nat) (ym : Nat) (se : Nat) (tn : Int32) (l0 : Nat) (a0 : Nat) (ao : Nat) (aw : Nat) (an : Nat) (ab : Nat) (av : Nat) (nt : Nat) (pp : Nat) (rl : Nat) (hm : Int32) (sp : Int32) (td : Int32) (dt : Int32) (c : Nat) (v : Nat) (h_rl : rl ≤ 8) (h_c : c < 2 ^ rl) (h_v : v ≤ 10) : Ct l E yX4_weightOf cX4_weightOf 4 (Option.some FieldType.long) 1 25 0 0 [.ref y0, .int (nI c), .int (nI v)] [(y0, .inr (4, [.ref a0, .ref yi, .ref yk, .ref l0, .ref t0, .ref yn, .ref yt, .int (nI se), .ref ys, .int (tn), .ref ym])), (a0, .inr (2, [.int (nI nt), .int (nI pp), .int (nI rl), .int (hm), .int (sp), .int (td), .int (dt), .ref ao, .ref aw, .ref an, .ref ab, .ref av]))] (Rt (some (.long (lN (wgt v rl c)))) [(y0, .inr (4, [.ref a0, .ref yi, .ref yk, .ref l0, .ref t0, .ref yn, .ref yt, .int (nI se), .ref ys, .int (tn), .ref ym])), (a0, .inr (2, [.int (nI nt), .int (nI pp), .int (nI rl), .int (hm), .int (sp), .int (td), .int (dt), .ref ao, .ref aw, .ref an, .ref ab, .ref av]))]) := by
  refine Ct.of (own := RX4) (nm := "weightOf") (lv := [(0, .ref y0), (1, .int (nI c)), (2, .int (nI v))]) (by decide) rfl rfl (Nat.le_of_ble_eq_true rfl) rfl ?_
  have h256 := pow_rl h_rl
  have hpl := pcn_le rl (by omega) c h_c
  refine v_iload_n (pc := 0) 1 dX4_weightOf_0 rfl rfl ?_
  refine v_callS (pc := 1) (rest := []) [] lk_636 (c_J6_bitCount_0f7a4 l E (nI c)) dX4_weightOf_1 rfl rfl (Nat.le_of_ble_eq_true rfl) (by decide) (by decide) rfl (Rt.len rfl) (Rt.go ?_)
  refine v_w (ws' := [(y0, .inr (4, [.ref a0, .ref yi, .ref yk, .ref l0, .ref t0, .ref yn, .ref yt, .int (nI se), .ref ys, .int (tn), .ref ym])), (a0, .inr (2, [.int (nI nt), .int (nI pp), .int (nI rl), .int (hm), .int (sp), .int (td), .int (dt), .ref ao, .ref aw, .ref an, .ref ab, .ref av]))]) rfl ?_
  refine v_st (st' := [.int (bci (nI c))]) rfl ?_
  refine v_st (st' := [.int (nI (pcn c))]) (by rw [pcn_all c (by omega)]) ?_
  refine v_istore_n (pc := 4) (lv' := [(3, .int (nI (pcn c))), (0, .ref y0), (1, .int (nI c)), (2, .int (nI v))]) dX4_weightOf_4 rfl (by decide) rfl ?_
  refine v_bipush (pc := 5) (v := 10) dX4_weightOf_5 (by decide) ?_
  refine v_iload_n (pc := 7) 3 dX4_weightOf_7 rfl rfl ?_
  refine v_isub (pc := 8) dX4_weightOf_8 ?_
  refine v_st (st' := [.int (nI (10 - v))]) (by rw [show (10 : Int32) = nI 10 from rfl, pk_sub h_v]) ?_
  refine v_i2l (pc := 9) dX4_weightOf_9 ?_
  refine v_st (st' := [.long (lN (10 - v))]) (by rw [nI_l (by omega)]) ?_
  refine v_iload_n (pc := 10) 0 dX4_weightOf_10 rfl rfl ?_
  refine v_callS (pc := 11) (rest := []) [] lk_674 (c_X4_power l E (10 - v) (pcn c) (by first | assumption | omega)) dX4_weightOf_11 rfl rfl (Nat.le_of_ble_eq_true rfl) (by decide) (by decide) rfl (Rt.len rfl) (Rt.go ?_)
  refine v_w (ws' := [(y0, .inr (4, [.ref a0, .ref yi, .ref yk, .ref l0, .ref t0, .ref yn, .ref yt, .int (nI se), .ref ys, .int (tn), .ref ym])), (a0, .inr (2, [.int (nI nt), .int (nI pp), .int (nI rl), .int (hm), .int (sp), .int (td), .int (dt), .ref ao, .ref aw, .ref an, .ref ab, .ref av]))]) rfl ?_
  refine v_st (st' := [.long (lN ((10 - v) ^ (pcn c)))]) rfl ?_
  refine v_iload_n (pc := 14) 3 dX4_weightOf_14 rfl rfl ?_
  refine v_i2l (pc := 15) dX4_weightOf_15 ?_
  refine v_st (st' := [.long (lN v), .long (lN ((10 - v) ^ (pcn c)))]) (by rw [nI_l (by omega)]) ?_
  refine v_aload_n (pc := 16) 1 dX4_weightOf_16 rfl rfl ?_
  refine gf_240 (pc := 17) 0 dX4_weightOf_17 rfl rfl ?_
  refine gf_96 (pc := 20) 1 dX4_weightOf_20 rfl rfl ?_
  refine v_iload_n (pc := 23) 0 dX4_weightOf_23 rfl rfl ?_
  refine v_isub (pc := 24) dX4_weightOf_24 ?_
  refine v_st (st' := [.int (nI (rl - pcn c)), .long (lN v), .long (lN ((10 - v) ^ (pcn c)))]) (by rw [pk_sub hpl]) ?_
  refine v_callS (pc := 25) (rest := [.long (lN ((10 - v) ^ (pcn c)))]) [] lk_674 (c_X4_power l E v (rl - pcn c) (by first | assumption | omega)) dX4_weightOf_25 rfl rfl (Nat.le_of_ble_eq_true rfl) (by decide) (by decide) rfl (Rt.len rfl) (Rt.go ?_)
  refine v_w (ws' := [(y0, .inr (4, [.ref a0, .ref yi, .ref yk, .ref l0, .ref t0, .ref yn, .ref yt, .int (nI se), .ref ys, .int (tn), .ref ym])), (a0, .inr (2, [.int (nI nt), .int (nI pp), .int (nI rl), .int (hm), .int (sp), .int (td), .int (dt), .ref ao, .ref aw, .ref an, .ref ab, .ref av]))]) rfl ?_
  refine v_st (st' := [.long (lN (v ^ (rl - pcn c))), .long (lN ((10 - v) ^ (pcn c)))]) rfl ?_
  refine v_lmul (pc := 28) dX4_weightOf_28 ?_
  refine v_lret (pc := 29) dX4_weightOf_29 rfl ⟨rfl, rfl⟩ (Rt.lg ?_)
  rw [lN_mul]; rfl
theorem c_X4_inAll (l : Launch) (E : VE) (y0 : Nat) (yi : Nat) (yk : Nat) (t0 : Nat) (yn : Nat) (yt : Nat) (ys : Nat) (ym : Nat) (se : Nat) (tn : Int32) (l0 : Nat) (a0 : Nat) (ao : Nat) (aw : Nat) (an : Nat) (ab : Nat) (av : Nat) (nt : Nat) (pp : Nat) (rl : Nat) (hm : Int32) (sp : Int32) (td : Int32) (dt : Int32) (x : Int64) (h_nt : nt ≤ 6) : Ct l E yX4_inAll cX4_inAll 5 (Option.some FieldType.int) 0 0 0 0 [.ref y0, .long (x)] [(y0, .inr (4, [.ref a0, .ref yi, .ref yk, .ref l0, .ref t0, .ref yn, .ref yt, .int (nI se), .ref ys, .int (tn), .ref ym])), (a0, .inr (2, [.int (nI nt), .int (nI pp), .int (nI rl), .int (hm), .int (sp), .int (td), .int (dt), .ref ao, .ref aw, .ref an, .ref ab, .ref av]))] (Rt (some (.int (allB x nt))) [(y0, .inr (4, [.ref a0, .ref yi, .ref yk, .ref l0, .ref t0, .ref yn, .ref yt, .int (nI se), .ref ys, .int (tn), .ref ym])), (a0, .inr (2, [.int (nI nt), .int (nI pp), .int (nI rl), .int (hm), .int (sp), .int (td), .int (dt), .ref ao, .ref aw, .ref an, .ref ab, .ref av]))]) := by
  refine Ct.of (own := RX4) (nm := "inAll") (lv := [(0, .ref y0), (1, .long (x))]) (by decide) rfl rfl (Nat.le_of_ble_eq_true rfl) rfl ?_
  refine v_iconst (pc := 0) (v := 0) dX4_inAll_0 (by decide) ?_
  refine v_istore_n (pc := 1) (lv' := [(3, .int (0)), (0, .ref y0), (1, .long (x))]) dX4_inAll_1 rfl (by decide) rfl ?_
  refine v_iconst (pc := 2) (v := 0) dX4_inAll_2 (by decide) ?_
  refine v_istore (pc := 3) (lv' := [(4, .int (0)), (3, .int (0)), (0, .ref y0), (1, .long (x))]) dX4_inAll_3 (by decide) rfl ?_
  have loop_5 : ∀ (D_5 : Nat) (i : Nat) (acc : Int32), nt - i < D_5 → (i ≤ nt) → (acc = orF (fun j => decide (x &&& (HVj j ^^^ -1) = 0)) (fun j => nI j) i) → V l E RX4 cX4_inAll 5 (Option.some FieldType.int) "inAll" ({ frames := 0, cells := 0, slots := 0, locals := 0 }) [(y0, .inr (4, [.ref a0, .ref yi, .ref yk, .ref l0, .ref t0, .ref yn, .ref yt, .int (nI se), .ref ys, .int (tn), .ref ym])), (a0, .inr (2, [.int (nI nt), .int (nI pp), .int (nI rl), .int (hm), .int (sp), .int (td), .int (dt), .ref ao, .ref aw, .ref an, .ref ab, .ref av]))] 0 0 (Rt (some (.int (allB x nt))) [(y0, .inr (4, [.ref a0, .ref yi, .ref yk, .ref l0, .ref t0, .ref yn, .ref yt, .int (nI se), .ref ys, .int (tn), .ref ym])), (a0, .inr (2, [.int (nI nt), .int (nI pp), .int (nI rl), .int (hm), .int (sp), .int (td), .int (dt), .ref ao, .ref aw, .ref an, .ref ab, .ref av]))]) 0 0 5 [(4, .int (nI i)), (3, .int (acc)), (0, .ref y0), (1, .long (x))] [] [(y0, .inr (4, [.ref a0, .ref yi, .ref yk, .ref l0, .ref t0, .ref yn, .ref yt, .int (nI se), .ref ys, .int (tn), .ref ym])), (a0, .inr (2, [.int (nI nt), .int (nI pp), .int (nI rl), .int (hm), .int (sp), .int (td), .int (dt), .ref ao, .ref aw, .ref an, .ref ab, .ref av]))] := by
    intro D_5
    induction D_5 with
    | zero => intro i acc h; exact absurd h (Nat.not_lt_zero _)
    | succ D_5 ih_5 =>
      intro i acc hmu_5 h_5_0 h_5_1
      refine v_iload (pc := 5) 0 dX4_inAll_5 rfl ?_
      refine v_aload_n (pc := 7) 2 dX4_inAll_7 rfl rfl ?_
      refine gf_240 (pc := 8) 0 dX4_inAll_8 rfl rfl ?_
      refine gf_90 (pc := 11) 1 dX4_inAll_11 rfl rfl ?_
      refine v_cmpN_ge (pc := 14) (a := i) (b := nt) 47 dX4_inAll_14 (by decide) (by omega) (by omega) (fun c_14 => ?_) (fun c_14 => ?_)
      · skip
        refine v_lload_n (pc := 47) 3 dX4_inAll_47 rfl rfl ?_
        refine v_lconst (pc := 48) (v := 0) dX4_inAll_48 (by decide) ?_
        refine v_lcmp (pc := 49) dX4_inAll_49 ?_
        refine v_lc_ne (pc := 50) 58 dX4_inAll_50 (by decide) (fun c_50 => ?_) (fun c_50 => ?_)
        · skip
          refine v_iload_n (pc := 58) 1 dX4_inAll_58 rfl rfl ?_
          refine v_iret (pc := 59) dX4_inAll_59 rfl ⟨rfl, rfl⟩ (Rt.i ?_)
          obtain rfl : i = nt := by omega
          unfold allB; rw [if_neg c_50, h_5_1]
        · skip
          refine v_bipush (pc := 53) (v := -4) dX4_inAll_53 (by decide) ?_
          refine v_goto (pc := 55) 59 dX4_inAll_55 (by decide) ?_
          refine v_iret (pc := 59) dX4_inAll_59 rfl ⟨rfl, rfl⟩ (Rt.i ?_)
          obtain rfl : i = nt := by omega
          unfold allB; rw [if_pos c_50]
      · skip
        refine v_lload_n (pc := 17) 3 dX4_inAll_17 rfl rfl ?_
        refine v_gsHV (pc := 18) dX4_inAll_18 tb_584 ?_
        refine v_iload (pc := 21) 0 dX4_inAll_21 rfl ?_
        refine v_tlHVN (pc := 23) (i) dX4_inAll_23 rfl (by omega) ?_
        refine v_ldc2 (pc := 24) dX4_inAll_24 tb_585 ?_
        refine v_lxor (pc := 27) dX4_inAll_27 ?_
        refine v_land (pc := 28) dX4_inAll_28 ?_
        refine v_lconst (pc := 29) (v := 0) dX4_inAll_29 (by decide) ?_
        refine v_lcmp (pc := 30) dX4_inAll_30 ?_
        refine v_lc_ne (pc := 31) 41 dX4_inAll_31 (by decide) (fun c_31 => ?_) (fun c_31 => ?_)
        · skip
          refine v_iinc (pc := 41) (v := nI (i + 1)) (lv' := [(4, .int (nI (i + 1))), (3, .int (acc)), (0, .ref y0), (1, .long (x))]) 0 dX4_inAll_41 rfl (nI_inc (i) 1) (by decide) rfl ?_
          refine v_goto (pc := 44) 5 dX4_inAll_44 (by decide) ?_
          refine v_lv (lv' := [(4, .int (nI (i + 1))), (3, .int (acc)), (0, .ref y0), (1, .long (x))]) [0, 1, 2, 3] rfl ?_
          refine ih_5 (i + 1) acc (by omega) ?_ ?_
          · omega
          · simp only [orF, decide_eq_true_eq]; rw [if_neg c_31, h_5_1]
        · skip
          refine v_iload_n (pc := 34) 1 dX4_inAll_34 rfl rfl ?_
          refine v_iconst (pc := 35) (v := 1) dX4_inAll_35 (by decide) ?_
          refine v_iload (pc := 36) 0 dX4_inAll_36 rfl ?_
          refine v_ishl (pc := 38) dX4_inAll_38 ?_
          refine v_ior (pc := 39) dX4_inAll_39 ?_
          refine v_istore_n (pc := 40) (lv' := [(3, .int ((acc) ||| ((1 : Int32) <<< ((nI i) &&& 31)))), (4, .int (nI i)), (0, .ref y0), (1, .long (x))]) dX4_inAll_40 rfl (by decide) rfl ?_
          refine v_iinc (pc := 41) (v := nI (i + 1)) (lv' := [(4, .int (nI (i + 1))), (3, .int ((acc) ||| ((1 : Int32) <<< ((nI i) &&& 31)))), (0, .ref y0), (1, .long (x))]) 1 dX4_inAll_41 rfl (nI_inc (i) 1) (by decide) rfl ?_
          refine v_goto (pc := 44) 5 dX4_inAll_44 (by decide) ?_
          refine v_lv (lv' := [(4, .int (nI (i + 1))), (3, .int ((acc) ||| ((1 : Int32) <<< ((nI i) &&& 31)))), (0, .ref y0), (1, .long (x))]) [0, 1, 2, 3] rfl ?_
          refine ih_5 (i + 1) ((acc) ||| ((1 : Int32) <<< ((nI i) &&& 31))) (by omega) ?_ ?_
          · omega
          · simp only [orF, decide_eq_true_eq]; rw [if_pos c_31, h_5_1]
  refine v_lv (lv' := [(4, .int (nI 0)), (3, .int (0)), (0, .ref y0), (1, .long (x))]) [0, 1, 2, 3] rfl ?_
  refine loop_5 ((nt - 0) + 1) 0 0 (Nat.lt_succ_self _) ?_ ?_
  · omega
  · rfl
theorem c_X4_inNone (l : Launch) (E : VE) (y0 : Nat) (yi : Nat) (yk : Nat) (t0 : Nat) (yn : Nat) (yt : Nat) (ys : Nat) (ym : Nat) (se : Nat) (tn : Int32) (l0 : Nat) (a0 : Nat) (ao : Nat) (aw : Nat) (an : Nat) (ab : Nat) (av : Nat) (nt : Nat) (pp : Nat) (rl : Nat) (hm : Int32) (sp : Int32) (td : Int32) (dt : Int32) (x : Int64) (h_nt : nt ≤ 6) : Ct l E yX4_inNone cX4_inNone 5 (Option.some FieldType.int) 0 0 0 0 [.ref y0, .long (x)] [(y0, .inr (4, [.ref a0, .ref yi, .ref yk, .ref l0, .ref t0, .ref yn, .ref yt, .int (nI se), .ref ys, .int (tn), .ref ym])), (a0, .inr (2, [.int (nI nt), .int (nI pp), .int (nI rl), .int (hm), .int (sp), .int (td), .int (dt), .ref ao, .ref aw, .ref an, .ref ab, .ref av]))] (Rt (some (.int (nonB x nt))) [(y0, .inr (4, [.ref a0, .ref yi, .ref yk, .ref l0, .ref t0, .ref yn, .ref yt, .int (nI se), .ref ys, .int (tn), .ref ym])), (a0, .inr (2, [.int (nI nt), .int (nI pp), .int (nI rl), .int (hm), .int (sp), .int (td), .int (dt), .ref ao, .ref aw, .ref an, .ref ab, .ref av]))]) := by
  refine Ct.of (own := RX4) (nm := "inNone") (lv := [(0, .ref y0), (1, .long (x))]) (by decide) rfl rfl (Nat.le_of_ble_eq_true rfl) rfl ?_
  refine v_iconst (pc := 0) (v := 0) dX4_inNone_0 (by decide) ?_
  refine v_istore_n (pc := 1) (lv' := [(3, .int (0)), (0, .ref y0), (1, .long (x))]) dX4_inNone_1 rfl (by decide) rfl ?_
  refine v_iconst (pc := 2) (v := 0) dX4_inNone_2 (by decide) ?_
  refine v_istore (pc := 3) (lv' := [(4, .int (0)), (3, .int (0)), (0, .ref y0), (1, .long (x))]) dX4_inNone_3 (by decide) rfl ?_
  have loop_5 : ∀ (D_5 : Nat) (i : Nat) (acc : Int32), nt - i < D_5 → (i ≤ nt) → (acc = orF (fun j => decide (x &&& HVj j = 0)) (fun j => nI j) i) → V l E RX4 cX4_inNone 5 (Option.some FieldType.int) "inNone" ({ frames := 0, cells := 0, slots := 0, locals := 0 }) [(y0, .inr (4, [.ref a0, .ref yi, .ref yk, .ref l0, .ref t0, .ref yn, .ref yt, .int (nI se), .ref ys, .int (tn), .ref ym])), (a0, .inr (2, [.int (nI nt), .int (nI pp), .int (nI rl), .int (hm), .int (sp), .int (td), .int (dt), .ref ao, .ref aw, .ref an, .ref ab, .ref av]))] 0 0 (Rt (some (.int (nonB x nt))) [(y0, .inr (4, [.ref a0, .ref yi, .ref yk, .ref l0, .ref t0, .ref yn, .ref yt, .int (nI se), .ref ys, .int (tn), .ref ym])), (a0, .inr (2, [.int (nI nt), .int (nI pp), .int (nI rl), .int (hm), .int (sp), .int (td), .int (dt), .ref ao, .ref aw, .ref an, .ref ab, .ref av]))]) 0 0 5 [(4, .int (nI i)), (3, .int (acc)), (0, .ref y0), (1, .long (x))] [] [(y0, .inr (4, [.ref a0, .ref yi, .ref yk, .ref l0, .ref t0, .ref yn, .ref yt, .int (nI se), .ref ys, .int (tn), .ref ym])), (a0, .inr (2, [.int (nI nt), .int (nI pp), .int (nI rl), .int (hm), .int (sp), .int (td), .int (dt), .ref ao, .ref aw, .ref an, .ref ab, .ref av]))] := by
    intro D_5
    induction D_5 with
    | zero => intro i acc h; exact absurd h (Nat.not_lt_zero _)
    | succ D_5 ih_5 =>
      intro i acc hmu_5 h_5_0 h_5_1
      refine v_iload (pc := 5) 0 dX4_inNone_5 rfl ?_
      refine v_aload_n (pc := 7) 2 dX4_inNone_7 rfl rfl ?_
      refine gf_240 (pc := 8) 0 dX4_inNone_8 rfl rfl ?_
      refine gf_90 (pc := 11) 1 dX4_inNone_11 rfl rfl ?_
      refine v_cmpN_ge (pc := 14) (a := i) (b := nt) 43 dX4_inNone_14 (by decide) (by omega) (by omega) (fun c_14 => ?_) (fun c_14 => ?_)
      · skip
        refine v_lload_n (pc := 43) 3 dX4_inNone_43 rfl rfl ?_
        refine v_lconst (pc := 44) (v := 0) dX4_inNone_44 (by decide) ?_
        refine v_lcmp (pc := 45) dX4_inNone_45 ?_
        refine v_lc_ne (pc := 46) 54 dX4_inNone_46 (by decide) (fun c_46 => ?_) (fun c_46 => ?_)
        · skip
          refine v_iload_n (pc := 54) 1 dX4_inNone_54 rfl rfl ?_
          refine v_iret (pc := 55) dX4_inNone_55 rfl ⟨rfl, rfl⟩ (Rt.i ?_)
          obtain rfl : i = nt := by omega
          unfold nonB; rw [if_neg c_46, h_5_1]
        · skip
          refine v_bipush (pc := 49) (v := -4) dX4_inNone_49 (by decide) ?_
          refine v_goto (pc := 51) 55 dX4_inNone_51 (by decide) ?_
          refine v_iret (pc := 55) dX4_inNone_55 rfl ⟨rfl, rfl⟩ (Rt.i ?_)
          obtain rfl : i = nt := by omega
          unfold nonB; rw [if_pos c_46]
      · skip
        refine v_lload_n (pc := 17) 3 dX4_inNone_17 rfl rfl ?_
        refine v_gsHV (pc := 18) dX4_inNone_18 tb_584 ?_
        refine v_iload (pc := 21) 0 dX4_inNone_21 rfl ?_
        refine v_tlHVN (pc := 23) (i) dX4_inNone_23 rfl (by omega) ?_
        refine v_land (pc := 24) dX4_inNone_24 ?_
        refine v_lconst (pc := 25) (v := 0) dX4_inNone_25 (by decide) ?_
        refine v_lcmp (pc := 26) dX4_inNone_26 ?_
        refine v_lc_ne (pc := 27) 37 dX4_inNone_27 (by decide) (fun c_27 => ?_) (fun c_27 => ?_)
        · skip
          refine v_iinc (pc := 37) (v := nI (i + 1)) (lv' := [(4, .int (nI (i + 1))), (3, .int (acc)), (0, .ref y0), (1, .long (x))]) 0 dX4_inNone_37 rfl (nI_inc (i) 1) (by decide) rfl ?_
          refine v_goto (pc := 40) 5 dX4_inNone_40 (by decide) ?_
          refine v_lv (lv' := [(4, .int (nI (i + 1))), (3, .int (acc)), (0, .ref y0), (1, .long (x))]) [0, 1, 2, 3] rfl ?_
          refine ih_5 (i + 1) acc (by omega) ?_ ?_
          · omega
          · simp only [orF, decide_eq_true_eq]; rw [if_neg c_27, h_5_1]
        · skip
          refine v_iload_n (pc := 30) 1 dX4_inNone_30 rfl rfl ?_
          refine v_iconst (pc := 31) (v := 1) dX4_inNone_31 (by decide) ?_
          refine v_iload (pc := 32) 0 dX4_inNone_32 rfl ?_
          refine v_ishl (pc := 34) dX4_inNone_34 ?_
          refine v_ior (pc := 35) dX4_inNone_35 ?_
          refine v_istore_n (pc := 36) (lv' := [(3, .int ((acc) ||| ((1 : Int32) <<< ((nI i) &&& 31)))), (4, .int (nI i)), (0, .ref y0), (1, .long (x))]) dX4_inNone_36 rfl (by decide) rfl ?_
          refine v_iinc (pc := 37) (v := nI (i + 1)) (lv' := [(4, .int (nI (i + 1))), (3, .int ((acc) ||| ((1 : Int32) <<< ((nI i) &&& 31)))), (0, .ref y0), (1, .long (x))]) 1 dX4_inNone_37 rfl (nI_inc (i) 1) (by decide) rfl ?_
          refine v_goto (pc := 40) 5 dX4_inNone_40 (by decide) ?_
          refine v_lv (lv' := [(4, .int (nI (i + 1))), (3, .int ((acc) ||| ((1 : Int32) <<< ((nI i) &&& 31)))), (0, .ref y0), (1, .long (x))]) [0, 1, 2, 3] rfl ?_
          refine ih_5 (i + 1) ((acc) ||| ((1 : Int32) <<< ((nI i) &&& 31))) (by omega) ?_ ?_
          · omega
          · simp only [orF, decide_eq_true_eq]; rw [if_pos c_27, h_5_1]
  refine v_lv (lv' := [(4, .int (nI 0)), (3, .int (0)), (0, .ref y0), (1, .long (x))]) [0, 1, 2, 3] rfl ?_
  refine loop_5 ((nt - 0) + 1) 0 0 (Nat.lt_succ_self _) ?_ ?_
  · omega
  · rfl
