def outN (rl : Nat) (hm sp : Int32) (on wr nd br : Nat → Int32) (x : Nat) : Nat := (outc rl hm sp on wr nd br (nI x)).toBitVec.toNat
theorem orF_N {p : Nat → Bool} {wr : Nat → Int32} {w : Nat → Nat} {b : Nat} (hb : b ≤ 31) : ∀ n, (∀ k, k < n → wr k = nI (w k) ∧ w k < b) → ∃ m, m < 2 ^ b ∧ orF p wr n = nI m := by
  intro n
  induction n with
  | zero => intro _; exact ⟨0, Nat.two_pow_pos b, rfl⟩
  | succ n ih =>
    intro h
    obtain ⟨m, hm, e⟩ := ih (fun k hk => h k (by omega))
    simp only [orF]
    split
    · obtain ⟨h1, h2⟩ := h n (by omega)
      rw [e, h1, pw31 (w n) (by omega), fa_or]
      exact ⟨_, Nat.or_lt_two_pow hm (Nat.pow_lt_pow_right (by decide) h2), rfl⟩
    · exact ⟨m, hm, e⟩
theorem outc_N {rl b : Nat} {hm sp : Int32} {on wr nd br : Nat → Int32} {w : Nat → Nat} (hb : b ≤ 31) (hw : ∀ k, k < rl → wr k = nI (w k) ∧ w k < b) (s : Int32) : ∃ m, m < 2 ^ b ∧ outc rl hm sp on wr nd br s = nI m := by
  obtain ⟨m, h, e⟩ := orF_N (p := hp hm on nd br s) hb rl hw
  obtain ⟨y, hy, ey⟩ := wb_of32 (sp ^^^ -1)
  unfold outc
  rw [e, ey, fa_and]
  exact ⟨m &&& y, Nat.lt_of_le_of_lt Nat.and_le_left h, rfl⟩
theorem outN_ok {rl b : Nat} {hm sp : Int32} {on wr nd br : Nat → Int32} {w : Nat → Nat} (hb : b ≤ 31) (hw : ∀ k, k < rl → wr k = nI (w k) ∧ w k < b) (x : Nat) : outc rl hm sp on wr nd br (nI x) = nI (outN rl hm sp on wr nd br x) ∧ outN rl hm sp on wr nd br x < 2 ^ b := by
  obtain ⟨m, h, e⟩ := outc_N (on := on) (nd := nd) (br := br) (hm := hm) (sp := sp) hb hw (nI x)
  have h2 : 2 ^ b ≤ 2 ^ 31 := Nat.pow_le_pow_right (by decide) hb
  unfold outN
  rw [e, pk_tn (by omega)]
  exact ⟨rfl, h⟩
def sqN (o : Nat → Nat) (x : Nat) : Nat → Nat
  | 0 => x
  | t + 1 => o (sqN o x t)
/-- behind t DAYS comes first a set that comes again, g - t DAYS later -/
def rndQ (o : Nat → Nat) (x t g : Nat) : Prop := t < g ∧ g ≤ 64 ∧ sqN o x t = sqN o x g ∧ ∀ a b, a < b → b < g → sqN o x a ≠ sqN o x b
def metI (o : Nat → Nat) (x g : Nat) (m : Nat → Int32) : Prop := (∀ t, t < g → m (sqN o x t) = nI t) ∧ (∀ j, j < 64 → (∀ t, t < g → sqN o x t ≠ j) → m j = -1) ∧ (∀ a b, a < b → b < g → sqN o x a ≠ sqN o x b) ∧ ∀ t, t ≤ g → sqN o x t < 64
theorem met_step {o : Nat → Nat} {x g : Nat} {m : Nat → Int32} (hg : g < 64) (h : metI o x g m) (hn : ¬ 0 ≤ m (sqN o x g)) (ho : sqN o x (g + 1) < 64) : metI o x (g + 1) (upd m (sqN o x g) (nI g)) := by
  obtain ⟨h1, h2, h3, h4⟩ := h
  have hne : ∀ t, t < g → sqN o x t ≠ sqN o x g := by
    intro t ht e
    apply hn
    rw [← e, h1 t ht]
    exact nI_pos' (by omega)
  refine ⟨fun t ht => ?_, fun j hj hv => ?_, fun a b ha hb => ?_, fun t ht => ?_⟩
  · unfold upd
    by_cases e : t = g
    · subst e; simp
    · rw [if_neg (hne t (by omega))]; exact h1 t (by omega)
  · unfold upd
    rw [if_neg (fun e => hv g (by omega) e.symm)]
    exact h2 j hj (fun t ht => hv t (by omega))
  · by_cases e : b = g
    · subst e; exact hne a ha
    · exact h3 a b ha (by omega)
  · by_cases e : t = g + 1
    · subst e; exact ho
    · exact h4 t (by omega)
theorem met_end {o : Nat → Nat} {x g : Nat} {m : Nat → Int32} (hg : g ≤ 64) (h : metI o x g m) (hn : g = 64 ∨ 0 ≤ m (sqN o x g)) : ∃ t, m (sqN o x g) = nI t ∧ rndQ o x t g := by
  obtain ⟨h1, h2, h3, h4⟩ := h
  have hv : ∃ t, t < g ∧ sqN o x t = sqN o x g := by
    rcases hn with rfl | hn
    · exact fb_onto (fun i hi => h4 i (by omega)) h3 (h4 64 (Nat.le_refl _))
    · apply Classical.byContradiction
      intro hc
      have := h2 _ (h4 g (Nat.le_refl _)) (fun t ht e => hc ⟨t, ht, e⟩)
      rw [this] at hn
      exact absurd hn (by decide)
  obtain ⟨t, ht, e⟩ := hv
  exact ⟨t, by rw [← e]; exact h1 t ht, ht, hg, e, h3⟩
theorem met_0 {o : Nat → Nat} {x : Nat} {f : Nat → Int32} (hx : x < 64) : metI o x 0 (fillI f (-1) 64) := by
  refine ⟨fun t ht => by omega, fun j hj _ => by simp [fillI, hj], fun a b ha hb => by omega, fun t ht => ?_⟩
  obtain rfl : t = 0 := by omega
  exact hx
theorem c_X4_round (l : Launch) (E : VE) (y0 : Nat) (yi : Nat) (yk : Nat) (t0 : Nat) (yn : Nat) (yt : Nat) (ys : Nat) (ym : Nat) (se : Nat) (tn : Int32) (l0 : Nat) (a0 : Nat) (ao : Nat) (aw : Nat) (an : Nat) (ab : Nat) (av : Nat) (nt : Nat) (pp : Nat) (rl : Nat) (hm : Int32) (sp : Int32) (td : Int32) (dt : Int32) (on : Nat → Int32) (wr : Nat → Int32) (nd : Nat → Int32) (br : Nat → Int32) (mt : Nat → Int32) (x : Nat) (wh : Int32) (h_rl : rl ≤ 8) (h_nt : nt ≤ 6) (w : Nat → Nat) (h_wr : ∀ k, k < rl → wr k = nI (w k) ∧ w k < 6) (h_x : x < 2 ^ nt) (h_wh : wh = 0 ∨ wh = 1) : Ct l E yX4_round cX4_round 5 (Option.some FieldType.int) 3 66 0 0 [.ref y0, .int (nI x), .int (wh)] [(y0, .inr (4, [.ref a0, .ref yi, .ref yk, .ref l0, .ref t0, .ref yn, .ref yt, .int (nI se), .ref ys, .int (tn), .ref ym])), (a0, .inr (2, [.int (nI nt), .int (nI pp), .int (nI rl), .int (hm), .int (sp), .int (td), .int (dt), .ref ao, .ref aw, .ref an, .ref ab, .ref av])), (ao, .inl (E.2.1 1, 8, .inl (on))), (aw, .inl (E.2.1 1, 8, .inl (wr))), (an, .inl (E.2.1 1, 8, .inl (nd))), (ab, .inl (E.2.1 1, 8, .inl (br))), (ym, .inl (E.2.1 1, 64, .inl (mt)))] (fun v wd => ∃ (mm : Nat → Int32) (t g : Nat), v = some (.int (if wh = 0 then nI t else nI (g - t))) ∧ wd = [(y0, .inr (4, [.ref a0, .ref yi, .ref yk, .ref l0, .ref t0, .ref yn, .ref yt, .int (nI se), .ref ys, .int (tn), .ref ym])), (a0, .inr (2, [.int (nI nt), .int (nI pp), .int (nI rl), .int (hm), .int (sp), .int (td), .int (dt), .ref ao, .ref aw, .ref an, .ref ab, .ref av])), (ao, .inl (E.2.1 1, 8, .inl (on))), (aw, .inl (E.2.1 1, 8, .inl (wr))), (an, .inl (E.2.1 1, 8, .inl (nd))), (ab, .inl (E.2.1 1, 8, .inl (br))), (ym, .inl (E.2.1 1, 64, .inl (mm)))] ∧ rndQ (outN rl hm sp on wr nd br) x t g) := by
  refine Ct.of (own := RX4) (nm := "round") (lv := [(0, .ref y0), (1, .int (nI x)), (2, .int (wh))]) (by decide) rfl rfl (Nat.le_of_ble_eq_true rfl) rfl ?_
  have h64 := p64 h_nt
  have h0p := p1 nt
  have hx64 : x < 64 := by omega
  refine v_aload_n (pc := 0) 0 dX4_round_0 rfl rfl ?_
  refine gf_240 (pc := 1) 0 dX4_round_1 rfl rfl ?_
  refine v_iload_n (pc := 4) 1 dX4_round_4 rfl rfl ?_
  refine v_callV (pc := 5) (rest := []) [1] 1 lk_510 (c_X2_hasSet l E a0 ao aw an ab av nt pp rl hm sp td dt (nI x) (by first | assumption | omega)) dX4_round_5 rfl rfl (Nat.le_of_ble_eq_true rfl) (by decide) rfl rfl rfl (by decide) rfl (Rt.len rfl) (Rt.go ?_)
  refine v_w (ws' := [(y0, .inr (4, [.ref a0, .ref yi, .ref yk, .ref l0, .ref t0, .ref yn, .ref yt, .int (nI se), .ref ys, .int (tn), .ref ym])), (a0, .inr (2, [.int (nI nt), .int (nI pp), .int (nI rl), .int (hm), .int (sp), .int (td), .int (dt), .ref ao, .ref aw, .ref an, .ref ab, .ref av])), (ao, .inl (E.2.1 1, 8, .inl (on))), (aw, .inl (E.2.1 1, 8, .inl (wr))), (an, .inl (E.2.1 1, 8, .inl (nd))), (ab, .inl (E.2.1 1, 8, .inl (br))), (ym, .inl (E.2.1 1, 64, .inl (mt)))]) rfl ?_
  refine v_st (st' := [.int (if ¬ (nI x) < 0 ∧ ¬ nI (2 ^ nt - 1) < (nI x) then 1 else 0)]) rfl ?_
  refine v_ifB_eq (pc := 8) 18 dX4_round_8 (by decide) (fun c_8 => ?_) (fun c_8 => ?_)
  · skip
    refine v_iconst (pc := 18) (v := -1) dX4_round_18 (by decide) ?_
    refine v_iret (pc := 19) dX4_round_19 rfl ⟨rfl, rfl⟩ ?_
    exact absurd ⟨nI_pos (by omega), fun z => absurd ((nI_ltI (by omega) (by omega)).mp z) (by omega)⟩ c_8
  · skip
    refine v_iload_n (pc := 11) 2 dX4_round_11 rfl rfl ?_
    refine v_callS (pc := 12) (rest := []) [] lk_531 (c_X4_isYesNo l E wh) dX4_round_12 rfl rfl (Nat.le_of_ble_eq_true rfl) (by decide) (by decide) rfl (Rt.len rfl) (Rt.go ?_)
    refine v_w (ws' := [(y0, .inr (4, [.ref a0, .ref yi, .ref yk, .ref l0, .ref t0, .ref yn, .ref yt, .int (nI se), .ref ys, .int (tn), .ref ym])), (a0, .inr (2, [.int (nI nt), .int (nI pp), .int (nI rl), .int (hm), .int (sp), .int (td), .int (dt), .ref ao, .ref aw, .ref an, .ref ab, .ref av])), (ao, .inl (E.2.1 1, 8, .inl (on))), (aw, .inl (E.2.1 1, 8, .inl (wr))), (an, .inl (E.2.1 1, 8, .inl (nd))), (ab, .inl (E.2.1 1, 8, .inl (br))), (ym, .inl (E.2.1 1, 64, .inl (mt)))]) rfl ?_
    refine v_st (st' := [.int (if wh = 0 ∨ wh = 1 then 1 else 0)]) rfl ?_
    refine v_ifB_ne (pc := 15) 20 dX4_round_15 (by decide) (fun c_15 => ?_) (fun c_15 => ?_)
    · skip
      refine v_aload_n (pc := 20) 0 dX4_round_20 rfl rfl ?_
      refine gf_250 (pc := 21) 0 dX4_round_21 rfl rfl ?_
      refine v_iconst (pc := 24) (v := -1) dX4_round_24 (by decide) ?_
      refine v_callS (pc := 25) (rest := []) [6] lk_534 (c_J7_fill_53178 l E ym 64 mt (-1) (by decide)) dX4_round_25 rfl rfl (Nat.le_of_ble_eq_true rfl) (by decide) (by decide) rfl (Rt.len rfl) (Rt.go ?_)
      refine v_w (ws' := [(y0, .inr (4, [.ref a0, .ref yi, .ref yk, .ref l0, .ref t0, .ref yn, .ref yt, .int (nI se), .ref ys, .int (tn), .ref ym])), (a0, .inr (2, [.int (nI nt), .int (nI pp), .int (nI rl), .int (hm), .int (sp), .int (td), .int (dt), .ref ao, .ref aw, .ref an, .ref ab, .ref av])), (ao, .inl (E.2.1 1, 8, .inl (on))), (aw, .inl (E.2.1 1, 8, .inl (wr))), (an, .inl (E.2.1 1, 8, .inl (nd))), (ab, .inl (E.2.1 1, 8, .inl (br))), (ym, .inl (E.2.1 1, 64, .inl (fillI mt (-1) 64)))]) rfl ?_
      refine v_st (st' := []) rfl ?_
      refine v_iload_n (pc := 28) 1 dX4_round_28 rfl rfl ?_
      refine v_istore_n (pc := 29) (lv' := [(3, .int (nI x)), (0, .ref y0), (1, .int (nI x)), (2, .int (wh))]) dX4_round_29 rfl (by decide) rfl ?_
      refine v_iconst (pc := 30) (v := 0) dX4_round_30 (by decide) ?_
      refine v_istore (pc := 31) (lv' := [(4, .int (0)), (3, .int (nI x)), (0, .ref y0), (1, .int (nI x)), (2, .int (wh))]) dX4_round_31 (by decide) rfl ?_
      have loop_33 : ∀ (D_33 : Nat) (g : Nat) (now : Nat) (m : Nat → Int32), 64 - g < D_33 → (g ≤ 64) → (now = sqN (outN rl hm sp on wr nd br) x g) → (now < 64) → (metI (outN rl hm sp on wr nd br) x g m) → V l E RX4 cX4_round 5 (Option.some FieldType.int) "round" ({ frames := 3, cells := 0, slots := 0, locals := 66 }) [(y0, .inr (4, [.ref a0, .ref yi, .ref yk, .ref l0, .ref t0, .ref yn, .ref yt, .int (nI se), .ref ys, .int (tn), .ref ym])), (a0, .inr (2, [.int (nI nt), .int (nI pp), .int (nI rl), .int (hm), .int (sp), .int (td), .int (dt), .ref ao, .ref aw, .ref an, .ref ab, .ref av])), (ao, .inl (E.2.1 1, 8, .inl (on))), (aw, .inl (E.2.1 1, 8, .inl (wr))), (an, .inl (E.2.1 1, 8, .inl (nd))), (ab, .inl (E.2.1 1, 8, .inl (br))), (ym, .inl (E.2.1 1, 64, .inl (mt)))] 0 0 (fun v wd => ∃ (mm : Nat → Int32) (t g : Nat), v = some (.int (if wh = 0 then nI t else nI (g - t))) ∧ wd = [(y0, .inr (4, [.ref a0, .ref yi, .ref yk, .ref l0, .ref t0, .ref yn, .ref yt, .int (nI se), .ref ys, .int (tn), .ref ym])), (a0, .inr (2, [.int (nI nt), .int (nI pp), .int (nI rl), .int (hm), .int (sp), .int (td), .int (dt), .ref ao, .ref aw, .ref an, .ref ab, .ref av])), (ao, .inl (E.2.1 1, 8, .inl (on))), (aw, .inl (E.2.1 1, 8, .inl (wr))), (an, .inl (E.2.1 1, 8, .inl (nd))), (ab, .inl (E.2.1 1, 8, .inl (br))), (ym, .inl (E.2.1 1, 64, .inl (mm)))] ∧ rndQ (outN rl hm sp on wr nd br) x t g) 0 0 33 [(4, .int (nI g)), (3, .int (nI now)), (0, .ref y0), (1, .int (nI x)), (2, .int (wh))] [] [(y0, .inr (4, [.ref a0, .ref yi, .ref yk, .ref l0, .ref t0, .ref yn, .ref yt, .int (nI se), .ref ys, .int (tn), .ref ym])), (a0, .inr (2, [.int (nI nt), .int (nI pp), .int (nI rl), .int (hm), .int (sp), .int (td), .int (dt), .ref ao, .ref aw, .ref an, .ref ab, .ref av])), (ao, .inl (E.2.1 1, 8, .inl (on))), (aw, .inl (E.2.1 1, 8, .inl (wr))), (an, .inl (E.2.1 1, 8, .inl (nd))), (ab, .inl (E.2.1 1, 8, .inl (br))), (ym, .inl (E.2.1 1, 64, .inl (m)))] := by
        intro D_33
        induction D_33 with
        | zero => intro g now m h; exact absurd h (Nat.not_lt_zero _)
        | succ D_33 ih_33 =>
          intro g now m hmu_33 h_33_0 h_33_1 h_33_2 h_33_3
          refine v_iload (pc := 33) 0 dX4_round_33 rfl ?_
          refine v_bipush (pc := 35) (v := 64) dX4_round_35 (by decide) ?_
          refine v_cmpN_ge (pc := 37) (a := g) (b := 64) 72 dX4_round_37 (by decide) (by omega) (by omega) (fun c_37 => ?_) (fun c_37 => ?_)
          · skip
            obtain ⟨t, ht, hq⟩ := met_end h_33_0 h_33_3 (Or.inl (by omega))
            rw [← h_33_1] at ht
            refine v_iload_n (pc := 72) 4 dX4_round_72 rfl rfl ?_
            refine v_if_ne (pc := 73) 85 dX4_round_73 (by decide) (fun c_73 => ?_) (fun c_73 => ?_)
            · skip
              refine v_iload (pc := 85) 0 dX4_round_85 rfl ?_
              refine v_aload_n (pc := 87) 2 dX4_round_87 rfl rfl ?_
              refine gf_250 (pc := 88) 0 dX4_round_88 rfl rfl ?_
              refine v_iload_n (pc := 91) 1 dX4_round_91 rfl rfl ?_
              refine v_ialdN (pc := 92) 6 1 (now) dX4_round_92 rfl rfl rfl (by omega) (by decide) ?_
              refine v_isub (pc := 93) dX4_round_93 ?_
              refine v_iret (pc := 94) dX4_round_94 rfl ⟨rfl, rfl⟩ ?_
              exact ⟨m, t, g, by rw [if_neg c_73, ht, pk_sub (Nat.le_of_lt hq.1)], rfl, hq⟩
            · skip
              refine v_aload_n (pc := 76) 2 dX4_round_76 rfl rfl ?_
              refine gf_250 (pc := 77) 0 dX4_round_77 rfl rfl ?_
              refine v_iload_n (pc := 80) 1 dX4_round_80 rfl rfl ?_
              refine v_ialdN (pc := 81) 6 1 (now) dX4_round_81 rfl rfl rfl (by omega) (by decide) ?_
              refine v_goto (pc := 82) 94 dX4_round_82 (by decide) ?_
              refine v_iret (pc := 94) dX4_round_94 rfl ⟨rfl, rfl⟩ ?_
              exact ⟨m, t, g, by rw [if_pos c_73, ht], rfl, hq⟩
          · skip
            refine v_aload_n (pc := 40) 2 dX4_round_40 rfl rfl ?_
            refine gf_250 (pc := 41) 0 dX4_round_41 rfl rfl ?_
            refine v_iload_n (pc := 44) 1 dX4_round_44 rfl rfl ?_
            refine v_ialdN (pc := 45) 6 1 (now) dX4_round_45 rfl rfl rfl (by omega) (by decide) ?_
            refine v_if_ge (pc := 46) 72 dX4_round_46 (by decide) (fun c_46 => ?_) (fun c_46 => ?_)
            · skip
              obtain ⟨t, ht, hq⟩ := met_end h_33_0 h_33_3 (Or.inr (by rw [← h_33_1]; exact c_46))
              rw [← h_33_1] at ht
              refine v_iload_n (pc := 72) 4 dX4_round_72 rfl rfl ?_
              refine v_if_ne (pc := 73) 85 dX4_round_73 (by decide) (fun c_73 => ?_) (fun c_73 => ?_)
              · skip
                refine v_iload (pc := 85) 0 dX4_round_85 rfl ?_
                refine v_aload_n (pc := 87) 2 dX4_round_87 rfl rfl ?_
                refine gf_250 (pc := 88) 0 dX4_round_88 rfl rfl ?_
                refine v_iload_n (pc := 91) 1 dX4_round_91 rfl rfl ?_
                refine v_ialdN (pc := 92) 6 1 (now) dX4_round_92 rfl rfl rfl (by omega) (by decide) ?_
                refine v_isub (pc := 93) dX4_round_93 ?_
                refine v_iret (pc := 94) dX4_round_94 rfl ⟨rfl, rfl⟩ ?_
                exact ⟨m, t, g, by rw [if_neg c_73, ht, pk_sub (Nat.le_of_lt hq.1)], rfl, hq⟩
              · skip
                refine v_aload_n (pc := 76) 2 dX4_round_76 rfl rfl ?_
                refine gf_250 (pc := 77) 0 dX4_round_77 rfl rfl ?_
                refine v_iload_n (pc := 80) 1 dX4_round_80 rfl rfl ?_
                refine v_ialdN (pc := 81) 6 1 (now) dX4_round_81 rfl rfl rfl (by omega) (by decide) ?_
                refine v_goto (pc := 82) 94 dX4_round_82 (by decide) ?_
                refine v_iret (pc := 94) dX4_round_94 rfl ⟨rfl, rfl⟩ ?_
                exact ⟨m, t, g, by rw [if_pos c_73, ht], rfl, hq⟩
            · skip
              refine v_aload_n (pc := 49) 2 dX4_round_49 rfl rfl ?_
              refine gf_250 (pc := 50) 0 dX4_round_50 rfl rfl ?_
              refine v_iload_n (pc := 53) 1 dX4_round_53 rfl rfl ?_
              refine v_iload (pc := 54) 0 dX4_round_54 rfl ?_
              refine v_iastN (pc := 56) (ws' := [(y0, .inr (4, [.ref a0, .ref yi, .ref yk, .ref l0, .ref t0, .ref yn, .ref yt, .int (nI se), .ref ys, .int (tn), .ref ym])), (a0, .inr (2, [.int (nI nt), .int (nI pp), .int (nI rl), .int (hm), .int (sp), .int (td), .int (dt), .ref ao, .ref aw, .ref an, .ref ab, .ref av])), (ao, .inl (E.2.1 1, 8, .inl (on))), (aw, .inl (E.2.1 1, 8, .inl (wr))), (an, .inl (E.2.1 1, 8, .inl (nd))), (ab, .inl (E.2.1 1, 8, .inl (br))), (ym, .inl (E.2.1 1, 64, .inl (upd (m) (now) (nI g))))]) 6 1 (now) dX4_round_56 rfl rfl rfl (by omega) (by decide) rfl ?_
              refine v_aload_n (pc := 57) 2 dX4_round_57 rfl rfl ?_
              refine gf_240 (pc := 58) 0 dX4_round_58 rfl rfl ?_
              refine v_iload_n (pc := 61) 1 dX4_round_61 rfl rfl ?_
              refine v_callV (pc := 62) (rest := []) [1, 2, 3, 4, 5] 1 lk_518 (c_X2_outcome l E a0 ao aw an ab av nt pp rl hm sp td dt on wr nd br (nI now) (by first | assumption | omega)) dX4_round_62 rfl rfl (Nat.le_of_ble_eq_true rfl) (by decide) rfl rfl rfl (by decide) rfl (Rt.len rfl) (Rt.go ?_)
              refine v_w (ws' := [(y0, .inr (4, [.ref a0, .ref yi, .ref yk, .ref l0, .ref t0, .ref yn, .ref yt, .int (nI se), .ref ys, .int (tn), .ref ym])), (a0, .inr (2, [.int (nI nt), .int (nI pp), .int (nI rl), .int (hm), .int (sp), .int (td), .int (dt), .ref ao, .ref aw, .ref an, .ref ab, .ref av])), (ao, .inl (E.2.1 1, 8, .inl (on))), (aw, .inl (E.2.1 1, 8, .inl (wr))), (an, .inl (E.2.1 1, 8, .inl (nd))), (ab, .inl (E.2.1 1, 8, .inl (br))), (ym, .inl (E.2.1 1, 64, .inl (upd (m) (now) (nI g))))]) rfl ?_
              refine v_st (st' := [.int (outc rl hm sp on wr nd br (nI now))]) rfl ?_
              refine v_st (st' := [.int (nI (outN rl hm sp on wr nd br now))]) (by rw [(outN_ok (b := 6) (by decide) h_wr now).1]) ?_
              refine v_istore_n (pc := 65) (lv' := [(3, .int (nI (outN rl hm sp on wr nd br now))), (4, .int (nI g)), (0, .ref y0), (1, .int (nI x)), (2, .int (wh))]) dX4_round_65 rfl (by decide) rfl ?_
              refine v_iinc (pc := 66) (v := nI (g + 1)) (lv' := [(4, .int (nI (g + 1))), (3, .int (nI (outN rl hm sp on wr nd br now))), (0, .ref y0), (1, .int (nI x)), (2, .int (wh))]) 1 dX4_round_66 rfl (nI_inc (g) 1) (by decide) rfl ?_
              refine v_goto (pc := 69) 33 dX4_round_69 (by decide) ?_
              refine v_lv (lv' := [(4, .int (nI (g + 1))), (3, .int (nI (outN rl hm sp on wr nd br now))), (0, .ref y0), (1, .int (nI x)), (2, .int (wh))]) [0, 1, 2, 3, 4] rfl ?_
              refine ih_33 (g + 1) (outN rl hm sp on wr nd br now) (upd (m) (now) (nI g)) (by omega) ?_ ?_ ?_ ?_
              · omega
              · rw [h_33_1]; rfl
              · exact (outN_ok (b := 6) (by decide) h_wr now).2
              · rw [h_33_1]; exact met_step (by omega) h_33_3 (by rw [← h_33_1]; exact c_46) (outN_ok (b := 6) (by decide) h_wr _).2
      refine v_lv (lv' := [(4, .int (nI 0)), (3, .int (nI x)), (0, .ref y0), (1, .int (nI x)), (2, .int (wh))]) [0, 1, 2, 3, 4] rfl ?_
      refine loop_33 ((64 - 0) + 1) 0 x (fillI mt (-1) 64) (Nat.lt_succ_self _) ?_ ?_ ?_ ?_
      · omega
      · rfl
      · omega
      · exact met_0 hx64
    · skip
      refine v_iconst (pc := 18) (v := -1) dX4_round_18 (by decide) ?_
      refine v_iret (pc := 19) dX4_round_19 rfl ⟨rfl, rfl⟩ ?_
      exact absurd h_wh c_15
theorem cB_X4_round (l : Launch) (E : VE) (y0 : Nat) (yi : Nat) (yk : Nat) (t0 : Nat) (yn : Nat) (yt : Nat) (ys : Nat) (ym : Nat) (se : Nat) (tn : Int32) (l0 : Nat) (a0 : Nat) (ao : Nat) (aw : Nat) (an : Nat) (ab : Nat) (av : Nat) (nt : Nat) (pp : Nat) (rl : Nat) (hm : Int32) (sp : Int32) (td : Int32) (dt : Int32) (x : Int32) (wh : Int32) (h_nt : nt ≤ 6) (h_bad : ¬ ((¬ x < 0 ∧ ¬ nI (2 ^ nt - 1) < x) ∧ (wh = 0 ∨ wh = 1))) : Ct l E yX4_round cX4_round 5 (Option.some FieldType.int) 2 41 0 0 [.ref y0, .int (x), .int (wh)] [(y0, .inr (4, [.ref a0, .ref yi, .ref yk, .ref l0, .ref t0, .ref yn, .ref yt, .int (nI se), .ref ys, .int (tn), .ref ym])), (a0, .inr (2, [.int (nI nt), .int (nI pp), .int (nI rl), .int (hm), .int (sp), .int (td), .int (dt), .ref ao, .ref aw, .ref an, .ref ab, .ref av]))] (Rt (some (.int (-1))) [(y0, .inr (4, [.ref a0, .ref yi, .ref yk, .ref l0, .ref t0, .ref yn, .ref yt, .int (nI se), .ref ys, .int (tn), .ref ym])), (a0, .inr (2, [.int (nI nt), .int (nI pp), .int (nI rl), .int (hm), .int (sp), .int (td), .int (dt), .ref ao, .ref aw, .ref an, .ref ab, .ref av]))]) := by
  refine Ct.of (own := RX4) (nm := "round") (lv := [(0, .ref y0), (1, .int (x)), (2, .int (wh))]) (by decide) rfl rfl (Nat.le_of_ble_eq_true rfl) rfl ?_
  refine v_aload_n (pc := 0) 0 dX4_round_0 rfl rfl ?_
  refine gf_240 (pc := 1) 0 dX4_round_1 rfl rfl ?_
  refine v_iload_n (pc := 4) 1 dX4_round_4 rfl rfl ?_
  refine v_callV (pc := 5) (rest := []) [1] 1 lk_510 (c_X2_hasSet l E a0 ao aw an ab av nt pp rl hm sp td dt x (by first | assumption | omega)) dX4_round_5 rfl rfl (Nat.le_of_ble_eq_true rfl) (by decide) rfl rfl rfl (by decide) rfl (Rt.len rfl) (Rt.go ?_)
  refine v_w (ws' := [(y0, .inr (4, [.ref a0, .ref yi, .ref yk, .ref l0, .ref t0, .ref yn, .ref yt, .int (nI se), .ref ys, .int (tn), .ref ym])), (a0, .inr (2, [.int (nI nt), .int (nI pp), .int (nI rl), .int (hm), .int (sp), .int (td), .int (dt), .ref ao, .ref aw, .ref an, .ref ab, .ref av]))]) rfl ?_
  refine v_st (st' := [.int (if ¬ x < 0 ∧ ¬ nI (2 ^ nt - 1) < x then 1 else 0)]) rfl ?_
  refine v_ifB_eq (pc := 8) 18 dX4_round_8 (by decide) (fun c_8 => ?_) (fun c_8 => ?_)
  · skip
    refine v_iconst (pc := 18) (v := -1) dX4_round_18 (by decide) ?_
    refine v_iret (pc := 19) dX4_round_19 rfl ⟨rfl, rfl⟩ (Rt.i ?_)
    first | simp only [if_neg c_8] | rfl
  · skip
    refine v_iload_n (pc := 11) 2 dX4_round_11 rfl rfl ?_
    refine v_callS (pc := 12) (rest := []) [] lk_531 (c_X4_isYesNo l E wh) dX4_round_12 rfl rfl (Nat.le_of_ble_eq_true rfl) (by decide) (by decide) rfl (Rt.len rfl) (Rt.go ?_)
    refine v_w (ws' := [(y0, .inr (4, [.ref a0, .ref yi, .ref yk, .ref l0, .ref t0, .ref yn, .ref yt, .int (nI se), .ref ys, .int (tn), .ref ym])), (a0, .inr (2, [.int (nI nt), .int (nI pp), .int (nI rl), .int (hm), .int (sp), .int (td), .int (dt), .ref ao, .ref aw, .ref an, .ref ab, .ref av]))]) rfl ?_
    refine v_st (st' := [.int (if wh = 0 ∨ wh = 1 then 1 else 0)]) rfl ?_
    refine v_ifB_ne (pc := 15) 20 dX4_round_15 (by decide) (fun c_15 => ?_) (fun c_15 => ?_)
    · skip
      exact absurd ⟨c_8, c_15⟩ h_bad
    · skip
      refine v_iconst (pc := 18) (v := -1) dX4_round_18 (by decide) ?_
      refine v_iret (pc := 19) dX4_round_19 rfl ⟨rfl, rfl⟩ (Rt.i ?_)
      first | simp only [if_pos c_8, if_neg c_15] | rfl
theorem cB_X4_keep (l : Launch) (E : VE) (y0 : Nat) (yi : Nat) (yk : Nat) (t0 : Nat) (yn : Nat) (yt : Nat) (ys : Nat) (ym : Nat) (se : Nat) (tn : Int32) (l0 : Nat) (a0 : Nat) (k : Int32) (h_k : ¬ (¬ k < 0 ∧ k < 2)) : Ct l E yX4_keep cX4_keep 3 (Option.some FieldType.int) 0 0 0 0 [.ref y0, .int (k)] [(y0, .inr (4, [.ref a0, .ref yi, .ref yk, .ref l0, .ref t0, .ref yn, .ref yt, .int (nI se), .ref ys, .int (tn), .ref ym]))] (Rt (some (.int (-1))) [(y0, .inr (4, [.ref a0, .ref yi, .ref yk, .ref l0, .ref t0, .ref yn, .ref yt, .int (nI se), .ref ys, .int (tn), .ref ym]))]) := by
  refine Ct.of (own := RX4) (nm := "keep") (lv := [(0, .ref y0), (1, .int (k))]) (by decide) rfl rfl (Nat.le_of_ble_eq_true rfl) rfl ?_
  refine v_iload_n (pc := 0) 1 dX4_keep_0 rfl rfl ?_
  refine v_if_lt (pc := 1) 9 dX4_keep_1 (by decide) (fun c_1 => ?_) (fun c_1 => ?_)
  · skip
    refine v_iconst (pc := 9) (v := -1) dX4_keep_9 (by decide) ?_
    refine v_iret (pc := 10) dX4_keep_10 rfl ⟨rfl, rfl⟩ (Rt.i ?_)
    first | simp only [if_pos c_1] | rfl
  · skip
    refine v_iload_n (pc := 4) 1 dX4_keep_4 rfl rfl ?_
    refine v_iconst (pc := 5) (v := 2) dX4_keep_5 (by decide) ?_
    refine v_icmp_lt (pc := 6) 11 dX4_keep_6 (by decide) (fun c_6 => ?_) (fun c_6 => ?_)
    · skip
      exact absurd ⟨c_1, c_6⟩ h_k
    · skip
      refine v_iconst (pc := 9) (v := -1) dX4_keep_9 (by decide) ?_
      refine v_iret (pc := 10) dX4_keep_10 rfl ⟨rfl, rfl⟩ (Rt.i ?_)
      first | simp only [if_neg c_1, if_neg c_6] | rfl
theorem cB_X4_back (l : Launch) (E : VE) (y0 : Nat) (yi : Nat) (yk : Nat) (t0 : Nat) (yn : Nat) (yt : Nat) (ys : Nat) (ym : Nat) (se : Nat) (tn : Int32) (l0 : Nat) (a0 : Nat) (k : Int32) (h_k : ¬ (¬ k < 0 ∧ k < 2)) : Ct l E yX4_back cX4_back 2 (Option.some FieldType.int) 0 0 0 0 [.ref y0, .int (k)] [(y0, .inr (4, [.ref a0, .ref yi, .ref yk, .ref l0, .ref t0, .ref yn, .ref yt, .int (nI se), .ref ys, .int (tn), .ref ym]))] (Rt (some (.int (-1))) [(y0, .inr (4, [.ref a0, .ref yi, .ref yk, .ref l0, .ref t0, .ref yn, .ref yt, .int (nI se), .ref ys, .int (tn), .ref ym]))]) := by
  refine Ct.of (own := RX4) (nm := "back") (lv := [(0, .ref y0), (1, .int (k))]) (by decide) rfl rfl (Nat.le_of_ble_eq_true rfl) rfl ?_
  refine v_iload_n (pc := 0) 1 dX4_back_0 rfl rfl ?_
  refine v_if_lt (pc := 1) 9 dX4_back_1 (by decide) (fun c_1 => ?_) (fun c_1 => ?_)
  · skip
    refine v_iconst (pc := 9) (v := -1) dX4_back_9 (by decide) ?_
    refine v_iret (pc := 10) dX4_back_10 rfl ⟨rfl, rfl⟩ (Rt.i ?_)
    first | simp only [if_pos c_1] | rfl
  · skip
    refine v_iload_n (pc := 4) 1 dX4_back_4 rfl rfl ?_
    refine v_iconst (pc := 5) (v := 2) dX4_back_5 (by decide) ?_
    refine v_icmp_lt (pc := 6) 11 dX4_back_6 (by decide) (fun c_6 => ?_) (fun c_6 => ?_)
    · skip
      exact absurd ⟨c_1, c_6⟩ h_k
    · skip
      refine v_iconst (pc := 9) (v := -1) dX4_back_9 (by decide) ?_
      refine v_iret (pc := 10) dX4_back_10 rfl ⟨rfl, rfl⟩ (Rt.i ?_)
      first | simp only [if_neg c_1, if_neg c_6] | rfl
theorem cN_X4_back (l : Launch) (E : VE) (y0 : Nat) (yi : Nat) (yk : Nat) (t0 : Nat) (yn : Nat) (yt : Nat) (ys : Nat) (ym : Nat) (se : Nat) (tn : Int32) (l0 : Nat) (a0 : Nat) (kp : Nat → Int32) (j : Nat) (h_j : j < 2) (h_kp : kp j = 0) : Ct l E yX4_back cX4_back 2 (Option.some FieldType.int) 0 0 0 0 [.ref y0, .int (nI j)] [(y0, .inr (4, [.ref a0, .ref yi, .ref yk, .ref l0, .ref t0, .ref yn, .ref yt, .int (nI se), .ref ys, .int (tn), .ref ym])), (yk, .inl (E.2.1 3, 2, .inl (kp)))] (Rt (some (.int (-2))) [(y0, .inr (4, [.ref a0, .ref yi, .ref yk, .ref l0, .ref t0, .ref yn, .ref yt, .int (nI se), .ref ys, .int (tn), .ref ym])), (yk, .inl (E.2.1 3, 2, .inl (kp)))]) := by
  refine Ct.of (own := RX4) (nm := "back") (lv := [(0, .ref y0), (1, .int (nI j))]) (by decide) rfl rfl (Nat.le_of_ble_eq_true rfl) rfl ?_
  refine v_iload_n (pc := 0) 1 dX4_back_0 rfl rfl ?_
  refine v_ifN_lt (pc := 1) (a := j) 9 dX4_back_1 (by decide) (by omega) ?_
  refine v_iload_n (pc := 4) 1 dX4_back_4 rfl rfl ?_
  refine v_iconst (pc := 5) (v := 2) dX4_back_5 (by decide) ?_
  refine v_cmpN_lt (pc := 6) (a := j) (b := 2) 11 dX4_back_6 (by decide) (by omega) (by omega) (fun c_6 => ?_) (fun c_6 => ?_)
  · skip
    refine v_aload_n (pc := 11) 0 dX4_back_11 rfl rfl ?_
    refine gf_242 (pc := 12) 0 dX4_back_12 rfl rfl ?_
    refine v_iload_n (pc := 15) 1 dX4_back_15 rfl rfl ?_
    refine v_zaldN (pc := 16) 1 3 (j) dX4_back_16 rfl rfl rfl (by omega) (by decide) ?_
    refine v_if_ne (pc := 17) 23 dX4_back_17 (by decide) (fun c_17 => ?_) (fun c_17 => ?_)
    · skip
      exact absurd h_kp c_17
    · skip
      refine v_bipush (pc := 20) (v := -2) dX4_back_20 (by decide) ?_
      refine v_iret (pc := 22) dX4_back_22 rfl ⟨rfl, rfl⟩ (Rt.i ?_)
      first | simp only [if_pos c_6, if_pos c_17] | rfl
  · skip
    refine v_iconst (pc := 9) (v := -1) dX4_back_9 (by decide) ?_
    refine v_iret (pc := 10) dX4_back_10 rfl ⟨rfl, rfl⟩ (Rt.i ?_)
    omega
theorem c_X4_back (l : Launch) (E : VE) (y0 : Nat) (yi : Nat) (yk : Nat) (t0 : Nat) (yn : Nat) (yt : Nat) (ys : Nat) (ym : Nat) (se : Nat) (tn : Int32) (l0 : Nat) (a0 : Nat) (ao : Nat) (aw : Nat) (an : Nat) (ab : Nat) (av : Nat) (nt : Nat) (pp : Nat) (rl : Nat) (hm : Int32) (sp : Int32) (td : Int32) (dt : Int32) (on : Nat → Int32) (wr : Nat → Int32) (nd : Nat → Int32) (br : Nat → Int32) (wo : Nat → Int32) (kp : Nat → Int32) (mf : Nat → Option Nat) (c0 : Nat) (co : Nat) (cw : Nat) (cn : Nat) (cb : Nat) (cv : Nat) (nt2 : Nat) (pp2 : Nat) (rl2 : Nat) (hm2 : Int32) (sp2 : Int32) (td2 : Int32) (dt2 : Int32) (on2 : Nat → Int32) (wr2 : Nat → Int32) (nd2 : Nat → Int32) (br2 : Nat → Int32) (wo2 : Nat → Int32) (j : Nat) (h_j : j < 2) (h_mf : mf j = some c0) (h_kp : ¬ kp j = 0) : Ct l E yX4_back cX4_back 2 (Option.some FieldType.int) 2 61 0 0 [.ref y0, .int (nI j)] [(y0, .inr (4, [.ref a0, .ref yi, .ref yk, .ref l0, .ref t0, .ref yn, .ref yt, .int (nI se), .ref ys, .int (tn), .ref ym])), (yi, .inl (E.2.1 5, 2, .inr (.inr (.inr (.inr (mf)))))), (yk, .inl (E.2.1 3, 2, .inl (kp))), (a0, .inr (2, [.int (nI nt), .int (nI pp), .int (nI rl), .int (hm), .int (sp), .int (td), .int (dt), .ref ao, .ref aw, .ref an, .ref ab, .ref av])), (ao, .inl (E.2.1 1, 8, .inl (on))), (aw, .inl (E.2.1 1, 8, .inl (wr))), (an, .inl (E.2.1 1, 8, .inl (nd))), (ab, .inl (E.2.1 1, 8, .inl (br))), (av, .inl (E.2.1 1, 6, .inl (wo))), (c0, .inr (2, [.int (nI nt2), .int (nI pp2), .int (nI rl2), .int (hm2), .int (sp2), .int (td2), .int (dt2), .ref co, .ref cw, .ref cn, .ref cb, .ref cv])), (co, .inl (E.2.1 1, 8, .inl (on2))), (cw, .inl (E.2.1 1, 8, .inl (wr2))), (cn, .inl (E.2.1 1, 8, .inl (nd2))), (cb, .inl (E.2.1 1, 8, .inl (br2))), (cv, .inl (E.2.1 1, 6, .inl (wo2)))] (Rt (some (.int (td2))) [(y0, .inr (4, [.ref a0, .ref yi, .ref yk, .ref l0, .ref t0, .ref yn, .ref yt, .int (nI se), .ref ys, .int (tn), .ref ym])), (yi, .inl (E.2.1 5, 2, .inr (.inr (.inr (.inr (mf)))))), (yk, .inl (E.2.1 3, 2, .inl (kp))), (a0, .inr (2, [.int (nI nt2), .int (nI pp2), .int (nI rl2), .int (hm2), .int (sp2), .int (td2), .int (dt2), .ref ao, .ref aw, .ref an, .ref ab, .ref av])), (ao, .inl (E.2.1 1, 8, .inl (va_cpy (on2) (on) 0 0 8))), (aw, .inl (E.2.1 1, 8, .inl (va_cpy (wr2) (wr) 0 0 8))), (an, .inl (E.2.1 1, 8, .inl (va_cpy (nd2) (nd) 0 0 8))), (ab, .inl (E.2.1 1, 8, .inl (va_cpy (br2) (br) 0 0 8))), (av, .inl (E.2.1 1, 6, .inl (va_cpy (wo2) (wo) 0 0 6))), (c0, .inr (2, [.int (nI nt2), .int (nI pp2), .int (nI rl2), .int (hm2), .int (sp2), .int (td2), .int (dt2), .ref co, .ref cw, .ref cn, .ref cb, .ref cv])), (co, .inl (E.2.1 1, 8, .inl (on2))), (cw, .inl (E.2.1 1, 8, .inl (wr2))), (cn, .inl (E.2.1 1, 8, .inl (nd2))), (cb, .inl (E.2.1 1, 8, .inl (br2))), (cv, .inl (E.2.1 1, 6, .inl (wo2)))]) := by
  refine Ct.of (own := RX4) (nm := "back") (lv := [(0, .ref y0), (1, .int (nI j))]) (by decide) rfl rfl (Nat.le_of_ble_eq_true rfl) rfl ?_
  refine v_iload_n (pc := 0) 1 dX4_back_0 rfl rfl ?_
  refine v_ifN_lt (pc := 1) (a := j) 9 dX4_back_1 (by decide) (by omega) ?_
  refine v_iload_n (pc := 4) 1 dX4_back_4 rfl rfl ?_
  refine v_iconst (pc := 5) (v := 2) dX4_back_5 (by decide) ?_
  refine v_cmpN_lt (pc := 6) (a := j) (b := 2) 11 dX4_back_6 (by decide) (by omega) (by omega) (fun c_6 => ?_) (fun c_6 => ?_)
  · skip
    refine v_aload_n (pc := 11) 0 dX4_back_11 rfl rfl ?_
    refine gf_242 (pc := 12) 0 dX4_back_12 rfl rfl ?_
    refine v_iload_n (pc := 15) 1 dX4_back_15 rfl rfl ?_
    refine v_zaldN (pc := 16) 2 3 (j) dX4_back_16 rfl rfl rfl (by omega) (by decide) ?_
    refine v_if_ne (pc := 17) 23 dX4_back_17 (by decide) (fun c_17 => ?_) (fun c_17 => ?_)
    · skip
      refine v_aload_n (pc := 23) 0 dX4_back_23 rfl rfl ?_
      refine gf_240 (pc := 24) 0 dX4_back_24 rfl rfl ?_
      refine v_aload_n (pc := 27) 0 dX4_back_27 rfl rfl ?_
      refine gf_241 (pc := 28) 0 dX4_back_28 rfl rfl ?_
      refine v_iload_n (pc := 31) 1 dX4_back_31 rfl rfl ?_
      refine v_aaldN (pc := 32) (r := c0) 1 5 (j) dX4_back_32 rfl rfl rfl (by omega) (by decide) h_mf ?_
      refine v_callV (pc := 33) (rest := []) [3, 4, 5, 6, 7, 8, 9, 10, 11, 12, 13, 14] 3 lk_430 (c_X2_become l E a0 ao aw an ab av nt pp rl hm sp td dt on wr nd br wo c0 co cw cn cb cv nt2 pp2 rl2 hm2 sp2 td2 dt2 on2 wr2 nd2 br2 wo2) dX4_back_33 rfl rfl (Nat.le_of_ble_eq_true rfl) (by decide) rfl rfl rfl (by decide) rfl (Rt.len rfl) (Rt.go ?_)
      refine v_w (ws' := [(y0, .inr (4, [.ref a0, .ref yi, .ref yk, .ref l0, .ref t0, .ref yn, .ref yt, .int (nI se), .ref ys, .int (tn), .ref ym])), (yi, .inl (E.2.1 5, 2, .inr (.inr (.inr (.inr (mf)))))), (yk, .inl (E.2.1 3, 2, .inl (kp))), (a0, .inr (2, [.int (nI nt2), .int (nI pp2), .int (nI rl2), .int (hm2), .int (sp2), .int (td2), .int (dt2), .ref ao, .ref aw, .ref an, .ref ab, .ref av])), (ao, .inl (E.2.1 1, 8, .inl (va_cpy (on2) (on) 0 0 8))), (aw, .inl (E.2.1 1, 8, .inl (va_cpy (wr2) (wr) 0 0 8))), (an, .inl (E.2.1 1, 8, .inl (va_cpy (nd2) (nd) 0 0 8))), (ab, .inl (E.2.1 1, 8, .inl (va_cpy (br2) (br) 0 0 8))), (av, .inl (E.2.1 1, 6, .inl (va_cpy (wo2) (wo) 0 0 6))), (c0, .inr (2, [.int (nI nt2), .int (nI pp2), .int (nI rl2), .int (hm2), .int (sp2), .int (td2), .int (dt2), .ref co, .ref cw, .ref cn, .ref cb, .ref cv])), (co, .inl (E.2.1 1, 8, .inl (on2))), (cw, .inl (E.2.1 1, 8, .inl (wr2))), (cn, .inl (E.2.1 1, 8, .inl (nd2))), (cb, .inl (E.2.1 1, 8, .inl (br2))), (cv, .inl (E.2.1 1, 6, .inl (wo2)))]) rfl ?_
      refine v_st (st' := []) rfl ?_
      refine v_aload_n (pc := 36) 0 dX4_back_36 rfl rfl ?_
      refine gf_240 (pc := 37) 0 dX4_back_37 rfl rfl ?_
      refine gf_107 (pc := 40) 3 dX4_back_40 rfl rfl ?_
      refine v_iret (pc := 43) dX4_back_43 rfl ⟨rfl, rfl⟩ (Rt.i2 ?_ ?_)
      · skip
        rfl
      · skip
        rfl
    · skip
      refine v_bipush (pc := 20) (v := -2) dX4_back_20 (by decide) ?_
      refine v_iret (pc := 22) dX4_back_22 rfl ⟨rfl, rfl⟩ (Rt.i2 ?_ ?_)
      · skip
        exact absurd c_17 h_kp
      · skip
        exact absurd c_17 h_kp
  · skip
    refine v_iconst (pc := 9) (v := -1) dX4_back_9 (by decide) ?_
    refine v_iret (pc := 10) dX4_back_10 rfl ⟨rfl, rfl⟩ (Rt.i2 ?_ ?_)
    · skip
      omega
    · skip
      omega
theorem c_X4_sheet (l : Launch) (E : VE) (y0 : Nat) (yi : Nat) (yk : Nat) (t0 : Nat) (yn : Nat) (yt : Nat) (ys : Nat) (ym : Nat) (se : Nat) (tn : Int32) (l0 : Nat) (a0 : Nat) (r0 : Nat) (rc : Nat) (sz : Nat) (la : Int32) (rf : Nat → Int32) (sf : Nat → Option Nat) (x : Int32) (n : Int32) (j : Nat) (h_j : j < 4) (h_sf : sf j = some r0) : Ct l E yX4_sheet cX4_sheet 4 (Option.some FieldType.int) 2 45 0 0 [.ref y0, .int (nI j), .int (x), .int (n)] [(y0, .inr (4, [.ref a0, .ref yi, .ref yk, .ref l0, .ref t0, .ref yn, .ref yt, .int (nI se), .ref ys, .int (tn), .ref ym])), (ys, .inl (E.2.1 4, 4, .inr (.inr (.inr (.inr (sf)))))), (r0, .inr (1, [.int (la), .int (nI sz), .ref rc])), (rc, .inl (E.2.1 1, 40, .inl (rf)))] (Rt (some (.int (if ¬ x < 0 ∧ ¬ 3 ≤ x then (if n ≤ 40 then (if 0 ≤ n then 1 else -14) else -1) else -1))) [(y0, .inr (4, [.ref a0, .ref yi, .ref yk, .ref l0, .ref t0, .ref yn, .ref yt, .int (nI se), .ref ys, .int (tn), .ref ym])), (ys, .inl (E.2.1 4, 4, .inr (.inr (.inr (.inr (sf)))))), (r0, .inr (1, [.int (if ¬ x < 0 ∧ ¬ 3 ≤ x then (if n ≤ 40 then (if 0 ≤ n then x else la) else la) else la), .int (if ¬ x < 0 ∧ ¬ 3 ≤ x then (if n ≤ 40 then (if 0 ≤ n then n else nI sz) else nI sz) else nI sz), .ref rc])), (rc, .inl (E.2.1 1, 40, .inl (if ¬ x < 0 ∧ ¬ 3 ≤ x then (if n ≤ 40 then (if 0 ≤ n then fillI rf 0 40 else rf) else rf) else rf)))]) := by
  refine Ct.of (own := RX4) (nm := "sheet") (lv := [(0, .ref y0), (1, .int (nI j)), (2, .int (x)), (3, .int (n))]) (by decide) rfl rfl (Nat.le_of_ble_eq_true rfl) rfl ?_
  refine v_iload_n (pc := 0) 1 dX4_sheet_0 rfl rfl ?_
  refine v_callS (pc := 1) (rest := []) [] lk_732 (c_X4_isSheet l E (nI j)) dX4_sheet_1 rfl rfl (Nat.le_of_ble_eq_true rfl) (by decide) (by decide) rfl (Rt.len rfl) (Rt.go ?_)
  refine v_w (ws' := [(y0, .inr (4, [.ref a0, .ref yi, .ref yk, .ref l0, .ref t0, .ref yn, .ref yt, .int (nI se), .ref ys, .int (tn), .ref ym])), (ys, .inl (E.2.1 4, 4, .inr (.inr (.inr (.inr (sf)))))), (r0, .inr (1, [.int (la), .int (nI sz), .ref rc])), (rc, .inl (E.2.1 1, 40, .inl (rf)))]) rfl ?_
  refine v_st (st' := [.int (if ¬ (nI j) < 0 ∧ ¬ 4 ≤ (nI j) then 1 else 0)]) rfl ?_
  refine v_ifB_eq (pc := 4) 20 dX4_sheet_4 (by decide) (fun c_4 => ?_) (fun c_4 => ?_)
  · skip
    refine v_iconst (pc := 20) (v := -1) dX4_sheet_20 (by decide) ?_
    refine v_iret (pc := 21) dX4_sheet_21 rfl ⟨rfl, rfl⟩ (Rt.i2 ?_ ?_)
    · skip
      exact absurd (sh4 h_j (by decide)) c_4
    · skip
      exact absurd (sh4 h_j (by decide)) c_4
  · skip
    refine v_iload_n (pc := 7) 2 dX4_sheet_7 rfl rfl ?_
    refine v_callS (pc := 8) (rest := []) [] lk_735 (c_X4_isLane l E x) dX4_sheet_8 rfl rfl (Nat.le_of_ble_eq_true rfl) (by decide) (by decide) rfl (Rt.len rfl) (Rt.go ?_)
    refine v_w (ws' := [(y0, .inr (4, [.ref a0, .ref yi, .ref yk, .ref l0, .ref t0, .ref yn, .ref yt, .int (nI se), .ref ys, .int (tn), .ref ym])), (ys, .inl (E.2.1 4, 4, .inr (.inr (.inr (.inr (sf)))))), (r0, .inr (1, [.int (la), .int (nI sz), .ref rc])), (rc, .inl (E.2.1 1, 40, .inl (rf)))]) rfl ?_
    refine v_st (st' := [.int (if ¬ x < 0 ∧ ¬ 3 ≤ x then 1 else 0)]) rfl ?_
    refine v_ifB_eq (pc := 11) 20 dX4_sheet_11 (by decide) (fun c_11 => ?_) (fun c_11 => ?_)
    · skip
      refine v_iconst (pc := 20) (v := -1) dX4_sheet_20 (by decide) ?_
      refine v_iret (pc := 21) dX4_sheet_21 rfl ⟨rfl, rfl⟩ (Rt.i2 ?_ ?_)
      · skip
        first | simp only [if_pos c_4, if_neg c_11] | rfl
      · skip
        first | simp only [if_pos c_4, if_neg c_11] | rfl
    · skip
      refine v_iload_n (pc := 14) 3 dX4_sheet_14 rfl rfl ?_
      refine v_bipush (pc := 15) (v := 40) dX4_sheet_15 (by decide) ?_
      refine v_icmp_le (pc := 17) 22 dX4_sheet_17 (by decide) (fun c_17 => ?_) (fun c_17 => ?_)
      · skip
        refine v_iload_n (pc := 22) 3 dX4_sheet_22 rfl rfl ?_
        refine v_if_ge (pc := 23) 29 dX4_sheet_23 (by decide) (fun c_23 => ?_) (fun c_23 => ?_)
        · skip
          refine v_aload_n (pc := 29) 0 dX4_sheet_29 rfl rfl ?_
          refine gf_248 (pc := 30) 0 dX4_sheet_30 rfl rfl ?_
          refine v_iload_n (pc := 33) 1 dX4_sheet_33 rfl rfl ?_
          refine v_aaldN (pc := 34) (r := r0) 1 4 (j) dX4_sheet_34 rfl rfl rfl (by omega) (by decide) h_sf ?_
          refine v_iload_n (pc := 35) 2 dX4_sheet_35 rfl rfl ?_
          refine v_iload_n (pc := 36) 3 dX4_sheet_36 rfl rfl ?_
          refine v_callV (pc := 37) (rest := []) [2, 3] 2 lk_738 (c_X1_renew l E r0 rc sz la rf x n) dX4_sheet_37 rfl rfl (Nat.le_of_ble_eq_true rfl) (by decide) rfl rfl rfl (by decide) rfl (Rt.len rfl) (Rt.go ?_)
          refine v_w (ws' := [(y0, .inr (4, [.ref a0, .ref yi, .ref yk, .ref l0, .ref t0, .ref yn, .ref yt, .int (nI se), .ref ys, .int (tn), .ref ym])), (ys, .inl (E.2.1 4, 4, .inr (.inr (.inr (.inr (sf)))))), (r0, .inr (1, [.int (x), .int (n), .ref rc])), (rc, .inl (E.2.1 1, 40, .inl (fillI rf 0 40)))]) rfl ?_
          refine v_st (st' := []) rfl ?_
          refine v_iconst (pc := 40) (v := 1) dX4_sheet_40 (by decide) ?_
          refine v_iret (pc := 41) dX4_sheet_41 rfl ⟨rfl, rfl⟩ (Rt.i2 ?_ ?_)
          · skip
            first | simp only [if_pos c_4, if_pos c_11, if_pos c_17, if_pos c_23] | rfl
          · skip
            first | simp only [if_pos c_4, if_pos c_11, if_pos c_17, if_pos c_23] | rfl
        · skip
          refine v_bipush (pc := 26) (v := -14) dX4_sheet_26 (by decide) ?_
          refine v_iret (pc := 28) dX4_sheet_28 rfl ⟨rfl, rfl⟩ (Rt.i2 ?_ ?_)
          · skip
            first | simp only [if_pos c_4, if_pos c_11, if_pos c_17, if_neg c_23] | rfl
          · skip
            first | simp only [if_pos c_4, if_pos c_11, if_pos c_17, if_neg c_23] | rfl
      · skip
        refine v_iconst (pc := 20) (v := -1) dX4_sheet_20 (by decide) ?_
        refine v_iret (pc := 21) dX4_sheet_21 rfl ⟨rfl, rfl⟩ (Rt.i2 ?_ ?_)
        · skip
          first | simp only [if_pos c_4, if_pos c_11, if_neg c_17] | rfl
        · skip
          first | simp only [if_pos c_4, if_pos c_11, if_neg c_17] | rfl
theorem cB_X4_sheet (l : Launch) (E : VE) (y0 : Nat) (yi : Nat) (yk : Nat) (t0 : Nat) (yn : Nat) (yt : Nat) (ys : Nat) (ym : Nat) (se : Nat) (tn : Int32) (l0 : Nat) (a0 : Nat) (k : Int32) (x : Int32) (n : Int32) (h_k : ¬ (¬ k < 0 ∧ ¬ 4 ≤ k)) : Ct l E yX4_sheet cX4_sheet 4 (Option.some FieldType.int) 1 20 0 0 [.ref y0, .int (k), .int (x), .int (n)] [(y0, .inr (4, [.ref a0, .ref yi, .ref yk, .ref l0, .ref t0, .ref yn, .ref yt, .int (nI se), .ref ys, .int (tn), .ref ym]))] (Rt (some (.int (-1))) [(y0, .inr (4, [.ref a0, .ref yi, .ref yk, .ref l0, .ref t0, .ref yn, .ref yt, .int (nI se), .ref ys, .int (tn), .ref ym]))]) := by
  refine Ct.of (own := RX4) (nm := "sheet") (lv := [(0, .ref y0), (1, .int (k)), (2, .int (x)), (3, .int (n))]) (by decide) rfl rfl (Nat.le_of_ble_eq_true rfl) rfl ?_
  refine v_iload_n (pc := 0) 1 dX4_sheet_0 rfl rfl ?_
  refine v_callS (pc := 1) (rest := []) [] lk_732 (c_X4_isSheet l E k) dX4_sheet_1 rfl rfl (Nat.le_of_ble_eq_true rfl) (by decide) (by decide) rfl (Rt.len rfl) (Rt.go ?_)
  refine v_w (ws' := [(y0, .inr (4, [.ref a0, .ref yi, .ref yk, .ref l0, .ref t0, .ref yn, .ref yt, .int (nI se), .ref ys, .int (tn), .ref ym]))]) rfl ?_
  refine v_st (st' := [.int (if ¬ k < 0 ∧ ¬ 4 ≤ k then 1 else 0)]) rfl ?_
  refine v_ifB_eq (pc := 4) 20 dX4_sheet_4 (by decide) (fun c_4 => ?_) (fun c_4 => ?_)
  · skip
    refine v_iconst (pc := 20) (v := -1) dX4_sheet_20 (by decide) ?_
    refine v_iret (pc := 21) dX4_sheet_21 rfl ⟨rfl, rfl⟩ (Rt.i ?_)
    first | simp only [if_neg c_4] | rfl
  · skip
    exact absurd c_4 h_k
theorem c_X4_lay (l : Launch) (E : VE) (y0 : Nat) (yi : Nat) (yk : Nat) (t0 : Nat) (yn : Nat) (yt : Nat) (ys : Nat) (ym : Nat) (se : Nat) (tn : Int32) (l0 : Nat) (a0 : Nat) (r0 : Nat) (rc : Nat) (sz : Nat) (la : Int32) (rf : Nat → Int32) (sf : Nat → Option Nat) (i : Int32) (v : Int32) (j : Nat) (h_j : j < 4) (h_sf : sf j = some r0) (h_sz : sz ≤ 40) : Ct l E yX4_lay cX4_lay 6 (Option.some FieldType.int) 1 22 0 0 [.ref y0, .int (nI j), .int (i), .int (v)] [(y0, .inr (4, [.ref a0, .ref yi, .ref yk, .ref l0, .ref t0, .ref yn, .ref yt, .int (nI se), .ref ys, .int (tn), .ref ym])), (ys, .inl (E.2.1 4, 4, .inr (.inr (.inr (.inr (sf)))))), (r0, .inr (1, [.int (la), .int (nI sz), .ref rc])), (rc, .inl (E.2.1 1, 40, .inl (rf)))] (Rt (some (.int (if fltA la (nI sz) la i = 0 then 1 else -10 - fltA la (nI sz) la i))) [(y0, .inr (4, [.ref a0, .ref yi, .ref yk, .ref l0, .ref t0, .ref yn, .ref yt, .int (nI se), .ref ys, .int (tn), .ref ym])), (ys, .inl (E.2.1 4, 4, .inr (.inr (.inr (.inr (sf)))))), (r0, .inr (1, [.int (la), .int (nI sz), .ref rc])), (rc, .inl (E.2.1 1, 40, .inl (if fltA la (nI sz) la i = 0 then (if okN i sz then upd rf i.toNatClampNeg (putV la v) else rf) else rf)))]) := by
  refine Ct.of (own := RX4) (nm := "lay") (lv := [(0, .ref y0), (1, .int (nI j)), (2, .int (i)), (3, .int (v))]) (by decide) rfl rfl (Nat.le_of_ble_eq_true rfl) rfl ?_
  refine v_iload_n (pc := 0) 1 dX4_lay_0 rfl rfl ?_
  refine v_callS (pc := 1) (rest := []) [] lk_732 (c_X4_isSheet l E (nI j)) dX4_lay_1 rfl rfl (Nat.le_of_ble_eq_true rfl) (by decide) (by decide) rfl (Rt.len rfl) (Rt.go ?_)
  refine v_w (ws' := [(y0, .inr (4, [.ref a0, .ref yi, .ref yk, .ref l0, .ref t0, .ref yn, .ref yt, .int (nI se), .ref ys, .int (tn), .ref ym])), (ys, .inl (E.2.1 4, 4, .inr (.inr (.inr (.inr (sf)))))), (r0, .inr (1, [.int (la), .int (nI sz), .ref rc])), (rc, .inl (E.2.1 1, 40, .inl (rf)))]) rfl ?_
  refine v_st (st' := [.int (if ¬ (nI j) < 0 ∧ ¬ 4 ≤ (nI j) then 1 else 0)]) rfl ?_
  refine v_ifB_ne (pc := 4) 9 dX4_lay_4 (by decide) (fun c_4 => ?_) (fun c_4 => ?_)
  · skip
    refine v_aload_n (pc := 9) 0 dX4_lay_9 rfl rfl ?_
    refine gf_248 (pc := 10) 0 dX4_lay_10 rfl rfl ?_
    refine v_iload_n (pc := 13) 1 dX4_lay_13 rfl rfl ?_
    refine v_aaldN (pc := 14) (r := r0) 1 4 (j) dX4_lay_14 rfl rfl rfl (by omega) (by decide) h_sf ?_
    refine v_astore (pc := 15) (lv' := [(4, .ref r0), (0, .ref y0), (1, .int (nI j)), (2, .int (i)), (3, .int (v))]) dX4_lay_15 (by decide) rfl ?_
    refine v_aload (pc := 17) 0 dX4_lay_17 rfl ?_
    refine v_aload (pc := 19) 0 dX4_lay_19 rfl ?_
    refine gf_229 (pc := 21) 2 dX4_lay_21 rfl rfl ?_
    refine v_iload_n (pc := 24) 3 dX4_lay_24 rfl rfl ?_
    refine v_callV (pc := 25) (rest := []) [2] 2 lk_747 (c_X1_faultAt l E r0 rc sz la la i) dX4_lay_25 rfl rfl (Nat.le_of_ble_eq_true rfl) (by decide) rfl rfl rfl (by decide) rfl (Rt.len rfl) (Rt.go ?_)
    refine v_w (ws' := [(y0, .inr (4, [.ref a0, .ref yi, .ref yk, .ref l0, .ref t0, .ref yn, .ref yt, .int (nI se), .ref ys, .int (tn), .ref ym])), (ys, .inl (E.2.1 4, 4, .inr (.inr (.inr (.inr (sf)))))), (r0, .inr (1, [.int (la), .int (nI sz), .ref rc])), (rc, .inl (E.2.1 1, 40, .inl (rf)))]) rfl ?_
    refine v_st (st' := [.int (fltA la (nI sz) la i)]) rfl ?_
    refine v_istore (pc := 28) (lv' := [(5, .int (fltA la (nI sz) la i)), (4, .ref r0), (0, .ref y0), (1, .int (nI j)), (2, .int (i)), (3, .int (v))]) dX4_lay_28 (by decide) rfl ?_
    refine v_iload (pc := 30) 0 dX4_lay_30 rfl ?_
    refine v_if_eq (pc := 32) 41 dX4_lay_32 (by decide) (fun c_32 => ?_) (fun c_32 => ?_)
    · skip
      refine v_aload (pc := 41) 1 dX4_lay_41 rfl ?_
      refine v_iload_n (pc := 43) 4 dX4_lay_43 rfl rfl ?_
      refine v_iload_n (pc := 44) 5 dX4_lay_44 rfl rfl ?_
      refine v_callV (pc := 45) (rest := []) [2, 3] 2 lk_751 (c_X1_put l E r0 rc sz la rf i v (by first | assumption | omega)) dX4_lay_45 rfl rfl (Nat.le_of_ble_eq_true rfl) (by decide) rfl rfl rfl (by decide) rfl (Rt.len rfl) (Rt.go ?_)
      refine v_w (ws' := [(y0, .inr (4, [.ref a0, .ref yi, .ref yk, .ref l0, .ref t0, .ref yn, .ref yt, .int (nI se), .ref ys, .int (tn), .ref ym])), (ys, .inl (E.2.1 4, 4, .inr (.inr (.inr (.inr (sf)))))), (r0, .inr (1, [.int (la), .int (nI sz), .ref rc])), (rc, .inl (E.2.1 1, 40, .inl (if okN i sz then upd rf i.toNatClampNeg (putV la v) else rf)))]) rfl ?_
      refine v_st (st' := []) rfl ?_
      refine v_iconst (pc := 48) (v := 1) dX4_lay_48 (by decide) ?_
      refine v_iret (pc := 49) dX4_lay_49 rfl ⟨rfl, rfl⟩ (Rt.i2 ?_ ?_)
      · skip
        first | simp only [if_pos c_4, if_pos c_32] | rfl
      · skip
        first | simp only [if_pos c_4, if_pos c_32] | rfl
    · skip
      refine v_bipush (pc := 35) (v := -10) dX4_lay_35 (by decide) ?_
      refine v_iload (pc := 37) 0 dX4_lay_37 rfl ?_
      refine v_isub (pc := 39) dX4_lay_39 ?_
      refine v_iret (pc := 40) dX4_lay_40 rfl ⟨rfl, rfl⟩ (Rt.i2 ?_ ?_)
      · skip
        first | simp only [if_pos c_4, if_neg c_32] | rfl
      · skip
        first | simp only [if_pos c_4, if_neg c_32] | rfl
  · skip
    refine v_iconst (pc := 7) (v := -1) dX4_lay_7 (by decide) ?_
    refine v_iret (pc := 8) dX4_lay_8 rfl ⟨rfl, rfl⟩ (Rt.i2 ?_ ?_)
    · skip
      exact absurd (sh4 h_j (by decide)) c_4
    · skip
      exact absurd (sh4 h_j (by decide)) c_4
theorem cB_X4_lay (l : Launch) (E : VE) (y0 : Nat) (yi : Nat) (yk : Nat) (t0 : Nat) (yn : Nat) (yt : Nat) (ys : Nat) (ym : Nat) (se : Nat) (tn : Int32) (l0 : Nat) (a0 : Nat) (k : Int32) (i : Int32) (v : Int32) (h_k : ¬ (¬ k < 0 ∧ ¬ 4 ≤ k)) : Ct l E yX4_lay cX4_lay 6 (Option.some FieldType.int) 1 20 0 0 [.ref y0, .int (k), .int (i), .int (v)] [(y0, .inr (4, [.ref a0, .ref yi, .ref yk, .ref l0, .ref t0, .ref yn, .ref yt, .int (nI se), .ref ys, .int (tn), .ref ym]))] (Rt (some (.int (-1))) [(y0, .inr (4, [.ref a0, .ref yi, .ref yk, .ref l0, .ref t0, .ref yn, .ref yt, .int (nI se), .ref ys, .int (tn), .ref ym]))]) := by
  refine Ct.of (own := RX4) (nm := "lay") (lv := [(0, .ref y0), (1, .int (k)), (2, .int (i)), (3, .int (v))]) (by decide) rfl rfl (Nat.le_of_ble_eq_true rfl) rfl ?_
  refine v_iload_n (pc := 0) 1 dX4_lay_0 rfl rfl ?_
  refine v_callS (pc := 1) (rest := []) [] lk_732 (c_X4_isSheet l E k) dX4_lay_1 rfl rfl (Nat.le_of_ble_eq_true rfl) (by decide) (by decide) rfl (Rt.len rfl) (Rt.go ?_)
  refine v_w (ws' := [(y0, .inr (4, [.ref a0, .ref yi, .ref yk, .ref l0, .ref t0, .ref yn, .ref yt, .int (nI se), .ref ys, .int (tn), .ref ym]))]) rfl ?_
  refine v_st (st' := [.int (if ¬ k < 0 ∧ ¬ 4 ≤ k then 1 else 0)]) rfl ?_
  refine v_ifB_ne (pc := 4) 9 dX4_lay_4 (by decide) (fun c_4 => ?_) (fun c_4 => ?_)
  · skip
    exact absurd c_4 h_k
  · skip
    refine v_iconst (pc := 7) (v := -1) dX4_lay_7 (by decide) ?_
    refine v_iret (pc := 8) dX4_lay_8 rfl ⟨rfl, rfl⟩ (Rt.i ?_)
    first | simp only [if_neg c_4] | rfl
theorem c_X4_read (l : Launch) (E : VE) (y0 : Nat) (yi : Nat) (yk : Nat) (t0 : Nat) (yn : Nat) (yt : Nat) (ys : Nat) (ym : Nat) (se : Nat) (tn : Int32) (l0 : Nat) (a0 : Nat) (ao : Nat) (aw : Nat) (an : Nat) (ab : Nat) (av : Nat) (nt : Nat) (pp : Nat) (rl : Nat) (hm : Int32) (sp : Int32) (td : Int32) (dt : Int32) (r0 : Nat) (rc : Nat) (sz : Nat) (la : Int32) (rf : Nat → Int32) (sf : Nat → Option Nat) (x : Int32) (f : Int32) (m : Nat) (j : Nat) (h_j : j < 4) (h_sf : sf j = some r0) (h_sz : sz ≤ 40) (h_x : ¬ x < 0 ∧ ¬ 3 ≤ x) (h_m : m ≤ 20) : Ct l E yX4_read cX4_read 12 (Option.some FieldType.int) 2 45 0 0 [.ref y0, .int (nI j), .int (x), .int (f), .int (nI m)] [(y0, .inr (4, [.ref a0, .ref yi, .ref yk, .ref l0, .ref t0, .ref yn, .ref yt, .int (nI se), .ref ys, .int (tn), .ref ym])), (a0, .inr (2, [.int (nI nt), .int (nI pp), .int (nI rl), .int (hm), .int (sp), .int (td), .int (dt), .ref ao, .ref aw, .ref an, .ref ab, .ref av])), (ys, .inl (E.2.1 4, 4, .inr (.inr (.inr (.inr (sf)))))), (r0, .inr (1, [.int (la), .int (nI sz), .ref rc])), (rc, .inl (E.2.1 1, 40, .inl (rf)))] (Rt (some (.int ((rdF la sz rf nt sp x f m 0 td).1))) [(y0, .inr (4, [.ref a0, .ref yi, .ref yk, .ref l0, .ref t0, .ref yn, .ref yt, .int (nI se), .ref ys, .int (match (rdF la sz rf nt sp x f m 0 td).2 with | none => tn | some p => p.2), .ref ym])), (a0, .inr (2, [.int (nI nt), .int (nI pp), .int (nI rl), .int (hm), .int (sp), .int (match (rdF la sz rf nt sp x f m 0 td).2 with | none => td | some p => p.1), .int (dt), .ref ao, .ref aw, .ref an, .ref ab, .ref av])), (ys, .inl (E.2.1 4, 4, .inr (.inr (.inr (.inr (sf)))))), (r0, .inr (1, [.int (la), .int (nI sz), .ref rc])), (rc, .inl (E.2.1 1, 40, .inl (rf)))]) := by
  refine Ct.of (own := RX4) (nm := "read") (lv := [(0, .ref y0), (1, .int (nI j)), (2, .int (x)), (3, .int (f)), (4, .int (nI m))]) (by decide) rfl rfl (Nat.le_of_ble_eq_true rfl) rfl ?_
  refine v_iload_n (pc := 0) 1 dX4_read_0 rfl rfl ?_
  refine v_callS (pc := 1) (rest := []) [] lk_732 (c_X4_isSheet l E (nI j)) dX4_read_1 rfl rfl (Nat.le_of_ble_eq_true rfl) (by decide) (by decide) rfl (Rt.len rfl) (Rt.go ?_)
  refine v_w (ws' := [(y0, .inr (4, [.ref a0, .ref yi, .ref yk, .ref l0, .ref t0, .ref yn, .ref yt, .int (nI se), .ref ys, .int (tn), .ref ym])), (a0, .inr (2, [.int (nI nt), .int (nI pp), .int (nI rl), .int (hm), .int (sp), .int (td), .int (dt), .ref ao, .ref aw, .ref an, .ref ab, .ref av])), (ys, .inl (E.2.1 4, 4, .inr (.inr (.inr (.inr (sf)))))), (r0, .inr (1, [.int (la), .int (nI sz), .ref rc])), (rc, .inl (E.2.1 1, 40, .inl (rf)))]) rfl ?_
  refine v_st (st' := [.int (if ¬ (nI j) < 0 ∧ ¬ 4 ≤ (nI j) then 1 else 0)]) rfl ?_
  refine v_ifB_eq (pc := 4) 26 dX4_read_4 (by decide) (fun c_4 => ?_) (fun c_4 => ?_)
  · skip
    refine v_iconst (pc := 26) (v := -1) dX4_read_26 (by decide) ?_
    refine v_iret (pc := 27) dX4_read_27 rfl ⟨rfl, rfl⟩ (Rt.i2 ?_ ?_)
    · skip
      exact absurd (sh4 h_j (by decide)) c_4
    · skip
      exact absurd (sh4 h_j (by decide)) c_4
  · skip
    refine v_iload_n (pc := 7) 2 dX4_read_7 rfl rfl ?_
    refine v_callS (pc := 8) (rest := []) [] lk_735 (c_X4_isLane l E x) dX4_read_8 rfl rfl (Nat.le_of_ble_eq_true rfl) (by decide) (by decide) rfl (Rt.len rfl) (Rt.go ?_)
    refine v_w (ws' := [(y0, .inr (4, [.ref a0, .ref yi, .ref yk, .ref l0, .ref t0, .ref yn, .ref yt, .int (nI se), .ref ys, .int (tn), .ref ym])), (a0, .inr (2, [.int (nI nt), .int (nI pp), .int (nI rl), .int (hm), .int (sp), .int (td), .int (dt), .ref ao, .ref aw, .ref an, .ref ab, .ref av])), (ys, .inl (E.2.1 4, 4, .inr (.inr (.inr (.inr (sf)))))), (r0, .inr (1, [.int (la), .int (nI sz), .ref rc])), (rc, .inl (E.2.1 1, 40, .inl (rf)))]) rfl ?_
    refine v_st (st' := [.int (if ¬ x < 0 ∧ ¬ 3 ≤ x then 1 else 0)]) rfl ?_
    refine v_ifB_eq (pc := 11) 26 dX4_read_11 (by decide) (fun c_11 => ?_) (fun c_11 => ?_)
    · skip
      refine v_iconst (pc := 26) (v := -1) dX4_read_26 (by decide) ?_
      refine v_iret (pc := 27) dX4_read_27 rfl ⟨rfl, rfl⟩ (Rt.i2 ?_ ?_)
      · skip
        exact absurd h_x c_11
      · skip
        exact absurd h_x c_11
    · skip
      refine v_iload (pc := 14) 4 dX4_read_14 rfl ?_
      refine v_ifN_lt (pc := 16) (a := m) 26 dX4_read_16 (by decide) (by omega) ?_
      refine v_iload (pc := 19) 4 dX4_read_19 rfl ?_
      refine v_bipush (pc := 21) (v := 20) dX4_read_21 (by decide) ?_
      refine v_cmpN_le (pc := 23) (a := m) (b := 20) 28 dX4_read_23 (by decide) (by omega) (by omega) (fun c_23 => ?_) (fun c_23 => ?_)
      · skip
        refine v_aload_n (pc := 28) 0 dX4_read_28 rfl rfl ?_
        refine gf_248 (pc := 29) 0 dX4_read_29 rfl rfl ?_
        refine v_iload_n (pc := 32) 1 dX4_read_32 rfl rfl ?_
        refine v_aaldN (pc := 33) (r := r0) 2 4 (j) dX4_read_33 rfl rfl rfl (by omega) (by decide) h_sf ?_
        refine v_astore (pc := 34) (lv' := [(5, .ref r0), (0, .ref y0), (1, .int (nI j)), (2, .int (x)), (3, .int (f)), (4, .int (nI m))]) dX4_read_34 (by decide) rfl ?_
        refine v_aload_n (pc := 36) 1 dX4_read_36 rfl rfl ?_
        refine gf_240 (pc := 37) 0 dX4_read_37 rfl rfl ?_
        refine gf_107 (pc := 40) 1 dX4_read_40 rfl rfl ?_
        refine v_istore (pc := 43) (lv' := [(6, .int (td)), (5, .ref r0), (0, .ref y0), (1, .int (nI j)), (2, .int (x)), (3, .int (f)), (4, .int (nI m))]) dX4_read_43 (by decide) rfl ?_
        refine v_iconst (pc := 45) (v := 0) dX4_read_45 (by decide) ?_
        refine v_istore (pc := 46) (lv' := [(7, .int (0)), (6, .int (td)), (5, .ref r0), (0, .ref y0), (1, .int (nI j)), (2, .int (x)), (3, .int (f)), (4, .int (nI m))]) dX4_read_46 (by decide) rfl ?_
        refine v_iconst (pc := 48) (v := 0) dX4_read_48 (by decide) ?_
        refine v_istore (pc := 49) (lv' := [(8, .int (0)), (7, .int (0)), (6, .int (td)), (5, .ref r0), (0, .ref y0), (1, .int (nI j)), (2, .int (x)), (3, .int (f)), (4, .int (nI m))]) dX4_read_49 (by decide) rfl ?_
        have loop_51 : ∀ (D_51 : Nat) (ca : Nat) (s : Int32) (fd : Int32), 2 * (m - ca) + (if fd = 0 then 1 else 0) < D_51 → (ca ≤ m) → ((fd = 0 ∧ rdF la sz rf nt sp x f m 0 td = rdF la sz rf nt sp x f (m - ca) ca s) ∨ (¬ fd = 0 ∧ rdF la sz rf nt sp x f m 0 td = (nI ca, some (s, fd)))) → V l E RX4 cX4_read 12 (Option.some FieldType.int) "read" ({ frames := 2, cells := 0, slots := 0, locals := 45 }) [(y0, .inr (4, [.ref a0, .ref yi, .ref yk, .ref l0, .ref t0, .ref yn, .ref yt, .int (nI se), .ref ys, .int (tn), .ref ym])), (a0, .inr (2, [.int (nI nt), .int (nI pp), .int (nI rl), .int (hm), .int (sp), .int (td), .int (dt), .ref ao, .ref aw, .ref an, .ref ab, .ref av])), (ys, .inl (E.2.1 4, 4, .inr (.inr (.inr (.inr (sf)))))), (r0, .inr (1, [.int (la), .int (nI sz), .ref rc])), (rc, .inl (E.2.1 1, 40, .inl (rf)))] 0 0 (Rt (some (.int ((rdF la sz rf nt sp x f m 0 td).1))) [(y0, .inr (4, [.ref a0, .ref yi, .ref yk, .ref l0, .ref t0, .ref yn, .ref yt, .int (nI se), .ref ys, .int (match (rdF la sz rf nt sp x f m 0 td).2 with | none => tn | some p => p.2), .ref ym])), (a0, .inr (2, [.int (nI nt), .int (nI pp), .int (nI rl), .int (hm), .int (sp), .int (match (rdF la sz rf nt sp x f m 0 td).2 with | none => td | some p => p.1), .int (dt), .ref ao, .ref aw, .ref an, .ref ab, .ref av])), (ys, .inl (E.2.1 4, 4, .inr (.inr (.inr (.inr (sf)))))), (r0, .inr (1, [.int (la), .int (nI sz), .ref rc])), (rc, .inl (E.2.1 1, 40, .inl (rf)))]) 0 0 51 [(8, .int (nI ca)), (6, .int (s)), (7, .int (fd)), (5, .ref r0), (0, .ref y0), (1, .int (nI j)), (2, .int (x)), (3, .int (f)), (4, .int (nI m))] [] [(y0, .inr (4, [.ref a0, .ref yi, .ref yk, .ref l0, .ref t0, .ref yn, .ref yt, .int (nI se), .ref ys, .int (tn), .ref ym])), (a0, .inr (2, [.int (nI nt), .int (nI pp), .int (nI rl), .int (hm), .int (sp), .int (td), .int (dt), .ref ao, .ref aw, .ref an, .ref ab, .ref av])), (ys, .inl (E.2.1 4, 4, .inr (.inr (.inr (.inr (sf)))))), (r0, .inr (1, [.int (la), .int (nI sz), .ref rc])), (rc, .inl (E.2.1 1, 40, .inl (rf)))] := by
          intro D_51
          induction D_51 with
          | zero => intro ca s fd h; exact absurd h (Nat.not_lt_zero _)
          | succ D_51 ih_51 =>
            intro ca s fd hmu_51 h_51_0 h_51_1
            refine v_iload (pc := 51) 0 dX4_read_51 rfl ?_
            refine v_iload (pc := 53) 8 dX4_read_53 rfl ?_
            refine v_cmpN_ge (pc := 55) (a := ca) (b := m) 166 dX4_read_55 (by decide) (by omega) (by omega) (fun c_55 => ?_) (fun c_55 => ?_)
            · skip
              have hRe : rdF la sz rf nt sp x f m 0 td = (nI ca, some (s, fd)) := by
                rcases h_51_1 with ⟨q1, q⟩ | ⟨q1, q⟩
                · rw [q, show m - ca = 0 by omega, q1]; rfl
                · exact q
              refine v_aload_n (pc := 166) 4 dX4_read_166 rfl rfl ?_
              refine gf_240 (pc := 167) 0 dX4_read_167 rfl rfl ?_
              refine v_iload (pc := 170) 1 dX4_read_170 rfl ?_
              refine pf_107 (pc := 172) (ws' := [(y0, .inr (4, [.ref a0, .ref yi, .ref yk, .ref l0, .ref t0, .ref yn, .ref yt, .int (nI se), .ref ys, .int (tn), .ref ym])), (a0, .inr (2, [.int (nI nt), .int (nI pp), .int (nI rl), .int (hm), .int (sp), .int (s), .int (dt), .ref ao, .ref aw, .ref an, .ref ab, .ref av])), (ys, .inl (E.2.1 4, 4, .inr (.inr (.inr (.inr (sf)))))), (r0, .inr (1, [.int (la), .int (nI sz), .ref rc])), (rc, .inl (E.2.1 1, 40, .inl (rf)))]) 1 dX4_read_172 rfl rfl rfl (Nat.le_of_ble_eq_true rfl) rfl ?_
              refine v_aload_n (pc := 175) 4 dX4_read_175 rfl rfl ?_
              refine v_iload (pc := 176) 2 dX4_read_176 rfl ?_
              refine pf_249 (pc := 178) (ws' := [(y0, .inr (4, [.ref a0, .ref yi, .ref yk, .ref l0, .ref t0, .ref yn, .ref yt, .int (nI se), .ref ys, .int (fd), .ref ym])), (a0, .inr (2, [.int (nI nt), .int (nI pp), .int (nI rl), .int (hm), .int (sp), .int (s), .int (dt), .ref ao, .ref aw, .ref an, .ref ab, .ref av])), (ys, .inl (E.2.1 4, 4, .inr (.inr (.inr (.inr (sf)))))), (r0, .inr (1, [.int (la), .int (nI sz), .ref rc])), (rc, .inl (E.2.1 1, 40, .inl (rf)))]) 0 dX4_read_178 rfl rfl rfl (Nat.le_of_ble_eq_true rfl) rfl ?_
              refine v_iload (pc := 181) 0 dX4_read_181 rfl ?_
              refine v_iret (pc := 183) dX4_read_183 rfl ⟨rfl, rfl⟩ (Rt.i2 ?_ ?_)
              · skip
                rw [hRe]
              · skip
                rw [hRe]
            · skip
              refine v_iload (pc := 58) 2 dX4_read_58 rfl ?_
              refine v_if_ne (pc := 60) 166 dX4_read_60 (by decide) (fun c_60 => ?_) (fun c_60 => ?_)
              · skip
                have hRe : rdF la sz rf nt sp x f m 0 td = (nI ca, some (s, fd)) := by
                  rcases h_51_1 with ⟨q1, q⟩ | ⟨q1, q⟩
                  · exact absurd q1 c_60
                  · exact q
                refine v_aload_n (pc := 166) 4 dX4_read_166 rfl rfl ?_
                refine gf_240 (pc := 167) 0 dX4_read_167 rfl rfl ?_
                refine v_iload (pc := 170) 1 dX4_read_170 rfl ?_
                refine pf_107 (pc := 172) (ws' := [(y0, .inr (4, [.ref a0, .ref yi, .ref yk, .ref l0, .ref t0, .ref yn, .ref yt, .int (nI se), .ref ys, .int (tn), .ref ym])), (a0, .inr (2, [.int (nI nt), .int (nI pp), .int (nI rl), .int (hm), .int (sp), .int (s), .int (dt), .ref ao, .ref aw, .ref an, .ref ab, .ref av])), (ys, .inl (E.2.1 4, 4, .inr (.inr (.inr (.inr (sf)))))), (r0, .inr (1, [.int (la), .int (nI sz), .ref rc])), (rc, .inl (E.2.1 1, 40, .inl (rf)))]) 1 dX4_read_172 rfl rfl rfl (Nat.le_of_ble_eq_true rfl) rfl ?_
                refine v_aload_n (pc := 175) 4 dX4_read_175 rfl rfl ?_
                refine v_iload (pc := 176) 2 dX4_read_176 rfl ?_
                refine pf_249 (pc := 178) (ws' := [(y0, .inr (4, [.ref a0, .ref yi, .ref yk, .ref l0, .ref t0, .ref yn, .ref yt, .int (nI se), .ref ys, .int (fd), .ref ym])), (a0, .inr (2, [.int (nI nt), .int (nI pp), .int (nI rl), .int (hm), .int (sp), .int (s), .int (dt), .ref ao, .ref aw, .ref an, .ref ab, .ref av])), (ys, .inl (E.2.1 4, 4, .inr (.inr (.inr (.inr (sf)))))), (r0, .inr (1, [.int (la), .int (nI sz), .ref rc])), (rc, .inl (E.2.1 1, 40, .inl (rf)))]) 0 dX4_read_178 rfl rfl rfl (Nat.le_of_ble_eq_true rfl) rfl ?_
                refine v_iload (pc := 181) 0 dX4_read_181 rfl ?_
                refine v_iret (pc := 183) dX4_read_183 rfl ⟨rfl, rfl⟩ (Rt.i2 ?_ ?_)
                · skip
                  rw [hRe]
                · skip
                  rw [hRe]
              · skip
                have hRd : rdF la sz rf nt sp x f m 0 td = rdF la sz rf nt sp x f (m - ca) ca s := by
                  rcases h_51_1 with ⟨-, q⟩ | ⟨q, -⟩
                  · exact q
                  · exact absurd c_60 q
                refine v_iload_n (pc := 63) 7 dX4_read_63 rfl rfl ?_
                refine v_iconst (pc := 64) (v := 2) dX4_read_64 (by decide) ?_
                refine v_iload (pc := 65) 0 dX4_read_65 rfl ?_
                refine v_imul (pc := 67) dX4_read_67 ?_
                refine v_iadd (pc := 68) dX4_read_68 ?_
                refine v_istore (pc := 69) (lv' := [(9, .int ((f) + ((2) * (nI ca)))), (8, .int (nI ca)), (6, .int (s)), (7, .int (fd)), (5, .ref r0), (0, .ref y0), (1, .int (nI j)), (2, .int (x)), (3, .int (f)), (4, .int (nI m))]) dX4_read_69 (by decide) rfl ?_
                refine v_aload (pc := 71) 4 dX4_read_71 rfl ?_
                refine v_iload_n (pc := 73) 7 dX4_read_73 rfl rfl ?_
                refine v_iload (pc := 74) 0 dX4_read_74 rfl ?_
                refine v_callV (pc := 76) (rest := []) [3] 3 lk_759 (c_X1_faultAtPair l E r0 rc sz la x ((f) + ((2) * (nI ca)))) dX4_read_76 rfl rfl (Nat.le_of_ble_eq_true rfl) (by decide) rfl rfl rfl (by decide) rfl (Rt.len rfl) (Rt.go ?_)
                refine v_w (ws' := [(y0, .inr (4, [.ref a0, .ref yi, .ref yk, .ref l0, .ref t0, .ref yn, .ref yt, .int (nI se), .ref ys, .int (tn), .ref ym])), (a0, .inr (2, [.int (nI nt), .int (nI pp), .int (nI rl), .int (hm), .int (sp), .int (td), .int (dt), .ref ao, .ref aw, .ref an, .ref ab, .ref av])), (ys, .inl (E.2.1 4, 4, .inr (.inr (.inr (.inr (sf)))))), (r0, .inr (1, [.int (la), .int (nI sz), .ref rc])), (rc, .inl (E.2.1 1, 40, .inl (rf)))]) rfl ?_
                refine v_st (st' := [.int (fltP la (nI sz) x ((f) + ((2) * (nI ca))))]) rfl ?_
                refine v_istore (pc := 79) (lv' := [(7, .int (fltP la (nI sz) x ((f) + ((2) * (nI ca))))), (9, .int ((f) + ((2) * (nI ca)))), (8, .int (nI ca)), (6, .int (s)), (5, .ref r0), (0, .ref y0), (1, .int (nI j)), (2, .int (x)), (3, .int (f)), (4, .int (nI m))]) dX4_read_79 (by decide) rfl ?_
                refine v_iload (pc := 81) 0 dX4_read_81 rfl ?_
                refine v_if_ne (pc := 83) 163 dX4_read_83 (by decide) (fun c_83 => ?_) (fun c_83 => ?_)
                · skip
                  refine v_goto (pc := 163) 51 dX4_read_163 (by decide) ?_
                  refine v_lv (lv' := [(8, .int (nI ca)), (6, .int (s)), (7, .int (fltP la (nI sz) x ((f) + ((2) * (nI ca))))), (5, .ref r0), (0, .ref y0), (1, .int (nI j)), (2, .int (x)), (3, .int (f)), (4, .int (nI m))]) [2, 3, 0, 4, 5, 6, 7, 8, 9] rfl ?_
                  refine ih_51 ca s (fltP la (nI sz) x ((f) + ((2) * (nI ca)))) (by simp only [↓reduceIte, c_60, c_83] at *; first | omega | (split <;> omega)) ?_ ?_
                  · omega
                  · exact Or.inr ⟨c_83, by rw [hRd, show m - ca = (m - (ca + 1)) + 1 by omega, rdF, if_neg c_83]⟩
                · skip
                  refine v_aload (pc := 86) 4 dX4_read_86 rfl ?_
                  refine v_iload (pc := 88) 1 dX4_read_88 rfl ?_
                  refine v_callV (pc := 90) (rest := []) [3, 4] 3 lk_764 (c_X1_cellAt l E r0 rc sz la rf ((f) + ((2) * (nI ca))) (by first | assumption | omega)) dX4_read_90 rfl rfl (Nat.le_of_ble_eq_true rfl) (by decide) rfl rfl rfl (by decide) rfl (Rt.len rfl) (Rt.go ?_)
                  refine v_w (ws' := [(y0, .inr (4, [.ref a0, .ref yi, .ref yk, .ref l0, .ref t0, .ref yn, .ref yt, .int (nI se), .ref ys, .int (tn), .ref ym])), (a0, .inr (2, [.int (nI nt), .int (nI pp), .int (nI rl), .int (hm), .int (sp), .int (td), .int (dt), .ref ao, .ref aw, .ref an, .ref ab, .ref av])), (ys, .inl (E.2.1 4, 4, .inr (.inr (.inr (.inr (sf)))))), (r0, .inr (1, [.int (la), .int (nI sz), .ref rc])), (rc, .inl (E.2.1 1, 40, .inl (rf)))]) rfl ?_
                  refine v_st (st' := [.int (if okN ((f) + ((2) * (nI ca))) sz then rf ((f) + ((2) * (nI ca))).toNatClampNeg else 0)]) rfl ?_
                  refine v_st (st' := [.int (rdC sz rf (f + 2 * nI ca))]) rfl ?_
                  refine v_istore (pc := 93) (lv' := [(10, .int (rdC sz rf (f + 2 * nI ca))), (7, .int (fltP la (nI sz) x ((f) + ((2) * (nI ca))))), (9, .int ((f) + ((2) * (nI ca)))), (8, .int (nI ca)), (6, .int (s)), (5, .ref r0), (0, .ref y0), (1, .int (nI j)), (2, .int (x)), (3, .int (f)), (4, .int (nI m))]) dX4_read_93 (by decide) rfl ?_
                  refine v_aload (pc := 95) 5 dX4_read_95 rfl ?_
                  refine v_iload (pc := 97) 2 dX4_read_97 rfl ?_
                  refine v_iconst (pc := 99) (v := 1) dX4_read_99 (by decide) ?_
                  refine v_iadd (pc := 100) dX4_read_100 ?_
                  refine v_callV (pc := 101) (rest := []) [3, 4] 3 lk_764 (c_X1_cellAt l E r0 rc sz la rf (((f) + ((2) * (nI ca))) + (1)) (by first | assumption | omega)) dX4_read_101 rfl rfl (Nat.le_of_ble_eq_true rfl) (by decide) rfl rfl rfl (by decide) rfl (Rt.len rfl) (Rt.go ?_)
                  refine v_w (ws' := [(y0, .inr (4, [.ref a0, .ref yi, .ref yk, .ref l0, .ref t0, .ref yn, .ref yt, .int (nI se), .ref ys, .int (tn), .ref ym])), (a0, .inr (2, [.int (nI nt), .int (nI pp), .int (nI rl), .int (hm), .int (sp), .int (td), .int (dt), .ref ao, .ref aw, .ref an, .ref ab, .ref av])), (ys, .inl (E.2.1 4, 4, .inr (.inr (.inr (.inr (sf)))))), (r0, .inr (1, [.int (la), .int (nI sz), .ref rc])), (rc, .inl (E.2.1 1, 40, .inl (rf)))]) rfl ?_
                  refine v_st (st' := [.int (if okN (((f) + ((2) * (nI ca))) + (1)) sz then rf (((f) + ((2) * (nI ca))) + (1)).toNatClampNeg else 0)]) rfl ?_
                  refine v_st (st' := [.int (rdC sz rf (f + 2 * nI ca + 1))]) rfl ?_
                  refine v_istore (pc := 104) (lv' := [(11, .int (rdC sz rf (f + 2 * nI ca + 1))), (10, .int (rdC sz rf (f + 2 * nI ca))), (7, .int (fltP la (nI sz) x ((f) + ((2) * (nI ca))))), (9, .int ((f) + ((2) * (nI ca)))), (8, .int (nI ca)), (6, .int (s)), (5, .ref r0), (0, .ref y0), (1, .int (nI j)), (2, .int (x)), (3, .int (f)), (4, .int (nI m))]) dX4_read_104 (by decide) rfl ?_
                  refine v_iload (pc := 106) 0 dX4_read_106 rfl ?_
                  refine v_callS (pc := 108) (rest := []) [] lk_531 (c_X4_isYesNo l E (rdC sz rf (f + 2 * nI ca + 1))) dX4_read_108 rfl rfl (Nat.le_of_ble_eq_true rfl) (by decide) (by decide) rfl (Rt.len rfl) (Rt.go ?_)
                  refine v_w (ws' := [(y0, .inr (4, [.ref a0, .ref yi, .ref yk, .ref l0, .ref t0, .ref yn, .ref yt, .int (nI se), .ref ys, .int (tn), .ref ym])), (a0, .inr (2, [.int (nI nt), .int (nI pp), .int (nI rl), .int (hm), .int (sp), .int (td), .int (dt), .ref ao, .ref aw, .ref an, .ref ab, .ref av])), (ys, .inl (E.2.1 4, 4, .inr (.inr (.inr (.inr (sf)))))), (r0, .inr (1, [.int (la), .int (nI sz), .ref rc])), (rc, .inl (E.2.1 1, 40, .inl (rf)))]) rfl ?_
                  refine v_st (st' := [.int (if (rdC sz rf (f + 2 * nI ca + 1)) = 0 ∨ (rdC sz rf (f + 2 * nI ca + 1)) = 1 then 1 else 0)]) rfl ?_
                  refine v_ifB_eq (pc := 111) 134 dX4_read_111 (by decide) (fun c_111 => ?_) (fun c_111 => ?_)
                  · skip
                    refine v_bipush (pc := 134) (v := -20) dX4_read_134 (by decide) ?_
                    refine v_iload (pc := 136) 4 dX4_read_136 rfl ?_
                    refine v_isub (pc := 138) dX4_read_138 ?_
                    refine v_iret (pc := 139) dX4_read_139 rfl ⟨rfl, rfl⟩ (Rt.i2 ?_ ?_)
                    · skip
                      rw [hRd, show m - ca = (m - (ca + 1)) + 1 by omega, rdF, if_pos c_83, if_neg c_111]
                    · skip
                      rw [hRd, show m - ca = (m - (ca + 1)) + 1 by omega, rdF, if_pos c_83, if_neg c_111]
                  · skip
                    refine v_aload_n (pc := 114) 7 dX4_read_114 rfl rfl ?_
                    refine v_iload (pc := 115) 1 dX4_read_115 rfl ?_
                    refine v_iload (pc := 117) 0 dX4_read_117 rfl ?_
                    refine v_iconst (pc := 119) (v := 1) dX4_read_119 (by decide) ?_
                    suffices J_120 : V l E RX4 cX4_read 12 (Option.some FieldType.int) "read" ({ frames := 2, cells := 0, slots := 0, locals := 45 }) [(y0, .inr (4, [.ref a0, .ref yi, .ref yk, .ref l0, .ref t0, .ref yn, .ref yt, .int (nI se), .ref ys, .int (tn), .ref ym])), (a0, .inr (2, [.int (nI nt), .int (nI pp), .int (nI rl), .int (hm), .int (sp), .int (td), .int (dt), .ref ao, .ref aw, .ref an, .ref ab, .ref av])), (ys, .inl (E.2.1 4, 4, .inr (.inr (.inr (.inr (sf)))))), (r0, .inr (1, [.int (la), .int (nI sz), .ref rc])), (rc, .inl (E.2.1 1, 40, .inl (rf)))] 0 0 (Rt (some (.int ((rdF la sz rf nt sp x f m 0 td).1))) [(y0, .inr (4, [.ref a0, .ref yi, .ref yk, .ref l0, .ref t0, .ref yn, .ref yt, .int (nI se), .ref ys, .int (match (rdF la sz rf nt sp x f m 0 td).2 with | none => tn | some p => p.2), .ref ym])), (a0, .inr (2, [.int (nI nt), .int (nI pp), .int (nI rl), .int (hm), .int (sp), .int (match (rdF la sz rf nt sp x f m 0 td).2 with | none => td | some p => p.1), .int (dt), .ref ao, .ref aw, .ref an, .ref ab, .ref av])), (ys, .inl (E.2.1 4, 4, .inr (.inr (.inr (.inr (sf)))))), (r0, .inr (1, [.int (la), .int (nI sz), .ref rc])), (rc, .inl (E.2.1 1, 40, .inl (rf)))]) 0 0 128 [(11, .int (rdC sz rf (f + 2 * nI ca + 1))), (10, .int (rdC sz rf (f + 2 * nI ca))), (7, .int (fltP la (nI sz) x ((f) + ((2) * (nI ca))))), (9, .int ((f) + ((2) * (nI ca)))), (8, .int (nI ca)), (6, .int (s)), (5, .ref r0), (0, .ref y0), (1, .int (nI j)), (2, .int (x)), (3, .int (f)), (4, .int (nI m))] [.int (if (rdC sz rf (f + 2 * nI ca + 1)) = (1) then 1 else 0), .int (rdC sz rf (f + 2 * nI ca)), .ref y0] [(y0, .inr (4, [.ref a0, .ref yi, .ref yk, .ref l0, .ref t0, .ref yn, .ref yt, .int (nI se), .ref ys, .int (tn), .ref ym])), (a0, .inr (2, [.int (nI nt), .int (nI pp), .int (nI rl), .int (hm), .int (sp), .int (td), .int (dt), .ref ao, .ref aw, .ref an, .ref ab, .ref av])), (ys, .inl (E.2.1 4, 4, .inr (.inr (.inr (.inr (sf)))))), (r0, .inr (1, [.int (la), .int (nI sz), .ref rc])), (rc, .inl (E.2.1 1, 40, .inl (rf)))] by
                      refine v_icmp_ne (pc := 120) 127 dX4_read_120 (by decide) (fun c_120 => ?_) (fun c_120 => ?_)
                      · skip
                        refine v_iconst (pc := 127) (v := 0) dX4_read_127 (by decide) ?_
                        refine v_st ?_ J_120
                        rw [if_neg (show ¬ ((rdC sz rf (f + 2 * nI ca + 1)) = (1)) from c_120)]
                      · skip
                        refine v_iconst (pc := 123) (v := 1) dX4_read_123 (by decide) ?_
                        refine v_goto (pc := 124) 128 dX4_read_124 (by decide) ?_
                        refine v_st ?_ J_120
                        rw [if_pos (show (rdC sz rf (f + 2 * nI ca + 1)) = (1) from c_120)]
                    refine v_callV (pc := 128) (rest := []) [0, 1] 0 lk_470 (c_X4_refusal l E y0 yi yk t0 yn yt ys ym se tn l0 a0 ao aw an ab av nt pp rl hm sp td dt (rdC sz rf (f + 2 * nI ca)) ((rdC sz rf (f + 2 * nI ca + 1)) = (1)) inferInstance) dX4_read_128 rfl rfl (Nat.le_of_ble_eq_true rfl) (by decide) rfl rfl rfl (by decide) rfl (Rt.len rfl) (Rt.go ?_)
                    refine v_w (ws' := [(y0, .inr (4, [.ref a0, .ref yi, .ref yk, .ref l0, .ref t0, .ref yn, .ref yt, .int (nI se), .ref ys, .int (tn), .ref ym])), (a0, .inr (2, [.int (nI nt), .int (nI pp), .int (nI rl), .int (hm), .int (sp), .int (td), .int (dt), .ref ao, .ref aw, .ref an, .ref ab, .ref av])), (ys, .inl (E.2.1 4, 4, .inr (.inr (.inr (.inr (sf)))))), (r0, .inr (1, [.int (la), .int (nI sz), .ref rc])), (rc, .inl (E.2.1 1, 40, .inl (rf)))]) rfl ?_
                    refine v_st (st' := [.int (refu nt sp (rdC sz rf (f + 2 * nI ca)) ((rdC sz rf (f + 2 * nI ca + 1)) = (1)))]) rfl ?_
                    refine v_if_eq (pc := 131) 140 dX4_read_131 (by decide) (fun c_131 => ?_) (fun c_131 => ?_)
                    · skip
                      refine v_iload (pc := 140) 5 dX4_read_140 rfl ?_
                      refine v_iload (pc := 142) 1 dX4_read_142 rfl ?_
                      refine v_iload (pc := 144) 0 dX4_read_144 rfl ?_
                      refine v_iconst (pc := 146) (v := 1) dX4_read_146 (by decide) ?_
                      suffices J_147 : V l E RX4 cX4_read 12 (Option.some FieldType.int) "read" ({ frames := 2, cells := 0, slots := 0, locals := 45 }) [(y0, .inr (4, [.ref a0, .ref yi, .ref yk, .ref l0, .ref t0, .ref yn, .ref yt, .int (nI se), .ref ys, .int (tn), .ref ym])), (a0, .inr (2, [.int (nI nt), .int (nI pp), .int (nI rl), .int (hm), .int (sp), .int (td), .int (dt), .ref ao, .ref aw, .ref an, .ref ab, .ref av])), (ys, .inl (E.2.1 4, 4, .inr (.inr (.inr (.inr (sf)))))), (r0, .inr (1, [.int (la), .int (nI sz), .ref rc])), (rc, .inl (E.2.1 1, 40, .inl (rf)))] 0 0 (Rt (some (.int ((rdF la sz rf nt sp x f m 0 td).1))) [(y0, .inr (4, [.ref a0, .ref yi, .ref yk, .ref l0, .ref t0, .ref yn, .ref yt, .int (nI se), .ref ys, .int (match (rdF la sz rf nt sp x f m 0 td).2 with | none => tn | some p => p.2), .ref ym])), (a0, .inr (2, [.int (nI nt), .int (nI pp), .int (nI rl), .int (hm), .int (sp), .int (match (rdF la sz rf nt sp x f m 0 td).2 with | none => td | some p => p.1), .int (dt), .ref ao, .ref aw, .ref an, .ref ab, .ref av])), (ys, .inl (E.2.1 4, 4, .inr (.inr (.inr (.inr (sf)))))), (r0, .inr (1, [.int (la), .int (nI sz), .ref rc])), (rc, .inl (E.2.1 1, 40, .inl (rf)))]) 0 0 155 [(11, .int (rdC sz rf (f + 2 * nI ca + 1))), (10, .int (rdC sz rf (f + 2 * nI ca))), (7, .int (fltP la (nI sz) x ((f) + ((2) * (nI ca))))), (9, .int ((f) + ((2) * (nI ca)))), (8, .int (nI ca)), (6, .int (s)), (5, .ref r0), (0, .ref y0), (1, .int (nI j)), (2, .int (x)), (3, .int (f)), (4, .int (nI m))] [.int (if (rdC sz rf (f + 2 * nI ca + 1)) = (1) then 1 else 0), .int (rdC sz rf (f + 2 * nI ca)), .int (s)] [(y0, .inr (4, [.ref a0, .ref yi, .ref yk, .ref l0, .ref t0, .ref yn, .ref yt, .int (nI se), .ref ys, .int (tn), .ref ym])), (a0, .inr (2, [.int (nI nt), .int (nI pp), .int (nI rl), .int (hm), .int (sp), .int (td), .int (dt), .ref ao, .ref aw, .ref an, .ref ab, .ref av])), (ys, .inl (E.2.1 4, 4, .inr (.inr (.inr (.inr (sf)))))), (r0, .inr (1, [.int (la), .int (nI sz), .ref rc])), (rc, .inl (E.2.1 1, 40, .inl (rf)))] by
                        refine v_icmp_ne (pc := 147) 154 dX4_read_147 (by decide) (fun c_147 => ?_) (fun c_147 => ?_)
                        · skip
                          refine v_iconst (pc := 154) (v := 0) dX4_read_154 (by decide) ?_
                          refine v_st ?_ J_147
                          rw [if_neg (show ¬ ((rdC sz rf (f + 2 * nI ca + 1)) = (1)) from c_147)]
                        · skip
                          refine v_iconst (pc := 150) (v := 1) dX4_read_150 (by decide) ?_
                          refine v_goto (pc := 151) 155 dX4_read_151 (by decide) ?_
                          refine v_st ?_ J_147
                          rw [if_pos (show (rdC sz rf (f + 2 * nI ca + 1)) = (1) from c_147)]
                      refine v_callS (pc := 155) (rest := []) [] lk_475 (c_X4_withBit l E s (rdC sz rf (f + 2 * nI ca)) ((rdC sz rf (f + 2 * nI ca + 1)) = (1)) inferInstance) dX4_read_155 rfl rfl (Nat.le_of_ble_eq_true rfl) (by decide) (by decide) rfl (Rt.len rfl) (Rt.go ?_)
                      refine v_w (ws' := [(y0, .inr (4, [.ref a0, .ref yi, .ref yk, .ref l0, .ref t0, .ref yn, .ref yt, .int (nI se), .ref ys, .int (tn), .ref ym])), (a0, .inr (2, [.int (nI nt), .int (nI pp), .int (nI rl), .int (hm), .int (sp), .int (td), .int (dt), .ref ao, .ref aw, .ref an, .ref ab, .ref av])), (ys, .inl (E.2.1 4, 4, .inr (.inr (.inr (.inr (sf)))))), (r0, .inr (1, [.int (la), .int (nI sz), .ref rc])), (rc, .inl (E.2.1 1, 40, .inl (rf)))]) rfl ?_
                      refine v_st (st' := [.int (wb s (rdC sz rf (f + 2 * nI ca)) ((rdC sz rf (f + 2 * nI ca + 1)) = (1)))]) rfl ?_
                      refine v_istore (pc := 158) (lv' := [(6, .int (wb s (rdC sz rf (f + 2 * nI ca)) ((rdC sz rf (f + 2 * nI ca + 1)) = (1)))), (11, .int (rdC sz rf (f + 2 * nI ca + 1))), (10, .int (rdC sz rf (f + 2 * nI ca))), (7, .int (fltP la (nI sz) x ((f) + ((2) * (nI ca))))), (9, .int ((f) + ((2) * (nI ca)))), (8, .int (nI ca)), (5, .ref r0), (0, .ref y0), (1, .int (nI j)), (2, .int (x)), (3, .int (f)), (4, .int (nI m))]) dX4_read_158 (by decide) rfl ?_
                      refine v_iinc (pc := 160) (v := nI (ca + 1)) (lv' := [(8, .int (nI (ca + 1))), (6, .int (wb s (rdC sz rf (f + 2 * nI ca)) ((rdC sz rf (f + 2 * nI ca + 1)) = (1)))), (11, .int (rdC sz rf (f + 2 * nI ca + 1))), (10, .int (rdC sz rf (f + 2 * nI ca))), (7, .int (fltP la (nI sz) x ((f) + ((2) * (nI ca))))), (9, .int ((f) + ((2) * (nI ca)))), (5, .ref r0), (0, .ref y0), (1, .int (nI j)), (2, .int (x)), (3, .int (f)), (4, .int (nI m))]) 5 dX4_read_160 rfl (nI_inc (ca) 1) (by decide) rfl ?_
                      refine v_goto (pc := 163) 51 dX4_read_163 (by decide) ?_
                      refine v_lv (lv' := [(8, .int (nI (ca + 1))), (6, .int (wb s (rdC sz rf (f + 2 * nI ca)) ((rdC sz rf (f + 2 * nI ca + 1)) = (1)))), (7, .int (fltP la (nI sz) x ((f) + ((2) * (nI ca))))), (5, .ref r0), (0, .ref y0), (1, .int (nI j)), (2, .int (x)), (3, .int (f)), (4, .int (nI m))]) [0, 1, 4, 6, 7, 8, 9, 10, 11] rfl ?_
                      refine ih_51 (ca + 1) (wb s (rdC sz rf (f + 2 * nI ca)) ((rdC sz rf (f + 2 * nI ca + 1)) = (1))) (fltP la (nI sz) x ((f) + ((2) * (nI ca)))) (by simp only [↓reduceIte, c_60, c_83] at *; first | omega | (split <;> omega)) ?_ ?_
                      · omega
                      · exact Or.inl ⟨c_83, by rw [hRd, show m - ca = (m - (ca + 1)) + 1 by omega, rdF, if_pos c_83, if_pos c_111, if_pos c_131]⟩
                    · skip
                      refine v_bipush (pc := 134) (v := -20) dX4_read_134 (by decide) ?_
                      refine v_iload (pc := 136) 4 dX4_read_136 rfl ?_
                      refine v_isub (pc := 138) dX4_read_138 ?_
                      refine v_iret (pc := 139) dX4_read_139 rfl ⟨rfl, rfl⟩ (Rt.i2 ?_ ?_)
                      · skip
                        rw [hRd, show m - ca = (m - (ca + 1)) + 1 by omega, rdF, if_pos c_83, if_pos c_111, if_neg c_131]
                      · skip
                        rw [hRd, show m - ca = (m - (ca + 1)) + 1 by omega, rdF, if_pos c_83, if_pos c_111, if_neg c_131]
        refine v_lv (lv' := [(8, .int (nI 0)), (6, .int (td)), (7, .int (0)), (5, .ref r0), (0, .ref y0), (1, .int (nI j)), (2, .int (x)), (3, .int (f)), (4, .int (nI m))]) [0, 2, 1, 3, 4, 5, 6, 7, 8] rfl ?_
        refine loop_51 ((2 * (m - 0) + (if 0 = 0 then 1 else 0)) + 1) 0 td 0 (Nat.lt_succ_self _) ?_ ?_
        · omega
        · exact Or.inl ⟨rfl, rfl⟩
      · skip
        refine v_iconst (pc := 26) (v := -1) dX4_read_26 (by decide) ?_
        refine v_iret (pc := 27) dX4_read_27 rfl ⟨rfl, rfl⟩ (Rt.i2 ?_ ?_)
        · skip
          omega
        · skip
          omega
theorem cB_X4_read (l : Launch) (E : VE) (y0 : Nat) (yi : Nat) (yk : Nat) (t0 : Nat) (yn : Nat) (yt : Nat) (ys : Nat) (ym : Nat) (se : Nat) (tn : Int32) (l0 : Nat) (a0 : Nat) (k : Int32) (x : Int32) (f : Int32) (n : Int32) (h_k : ¬ ((¬ k < 0 ∧ ¬ 4 ≤ k) ∧ (¬ x < 0 ∧ ¬ 3 ≤ x) ∧ ¬ n < 0 ∧ n ≤ 20)) : Ct l E yX4_read cX4_read 12 (Option.some FieldType.int) 1 20 0 0 [.ref y0, .int (k), .int (x), .int (f), .int (n)] [(y0, .inr (4, [.ref a0, .ref yi, .ref yk, .ref l0, .ref t0, .ref yn, .ref yt, .int (nI se), .ref ys, .int (tn), .ref ym]))] (Rt (some (.int (-1))) [(y0, .inr (4, [.ref a0, .ref yi, .ref yk, .ref l0, .ref t0, .ref yn, .ref yt, .int (nI se), .ref ys, .int (tn), .ref ym]))]) := by
  refine Ct.of (own := RX4) (nm := "read") (lv := [(0, .ref y0), (1, .int (k)), (2, .int (x)), (3, .int (f)), (4, .int (n))]) (by decide) rfl rfl (Nat.le_of_ble_eq_true rfl) rfl ?_
  refine v_iload_n (pc := 0) 1 dX4_read_0 rfl rfl ?_
  refine v_callS (pc := 1) (rest := []) [] lk_732 (c_X4_isSheet l E k) dX4_read_1 rfl rfl (Nat.le_of_ble_eq_true rfl) (by decide) (by decide) rfl (Rt.len rfl) (Rt.go ?_)
  refine v_w (ws' := [(y0, .inr (4, [.ref a0, .ref yi, .ref yk, .ref l0, .ref t0, .ref yn, .ref yt, .int (nI se), .ref ys, .int (tn), .ref ym]))]) rfl ?_
  refine v_st (st' := [.int (if ¬ k < 0 ∧ ¬ 4 ≤ k then 1 else 0)]) rfl ?_
  refine v_ifB_eq (pc := 4) 26 dX4_read_4 (by decide) (fun c_4 => ?_) (fun c_4 => ?_)
  · skip
    refine v_iconst (pc := 26) (v := -1) dX4_read_26 (by decide) ?_
    refine v_iret (pc := 27) dX4_read_27 rfl ⟨rfl, rfl⟩ (Rt.i ?_)
    first | simp only [if_neg c_4] | rfl
  · skip
    refine v_iload_n (pc := 7) 2 dX4_read_7 rfl rfl ?_
    refine v_callS (pc := 8) (rest := []) [] lk_735 (c_X4_isLane l E x) dX4_read_8 rfl rfl (Nat.le_of_ble_eq_true rfl) (by decide) (by decide) rfl (Rt.len rfl) (Rt.go ?_)
    refine v_w (ws' := [(y0, .inr (4, [.ref a0, .ref yi, .ref yk, .ref l0, .ref t0, .ref yn, .ref yt, .int (nI se), .ref ys, .int (tn), .ref ym]))]) rfl ?_
    refine v_st (st' := [.int (if ¬ x < 0 ∧ ¬ 3 ≤ x then 1 else 0)]) rfl ?_
    refine v_ifB_eq (pc := 11) 26 dX4_read_11 (by decide) (fun c_11 => ?_) (fun c_11 => ?_)
    · skip
      refine v_iconst (pc := 26) (v := -1) dX4_read_26 (by decide) ?_
      refine v_iret (pc := 27) dX4_read_27 rfl ⟨rfl, rfl⟩ (Rt.i ?_)
      first | simp only [if_pos c_4, if_neg c_11] | rfl
    · skip
      refine v_iload (pc := 14) 4 dX4_read_14 rfl ?_
      refine v_if_lt (pc := 16) 26 dX4_read_16 (by decide) (fun c_16 => ?_) (fun c_16 => ?_)
      · skip
        refine v_iconst (pc := 26) (v := -1) dX4_read_26 (by decide) ?_
        refine v_iret (pc := 27) dX4_read_27 rfl ⟨rfl, rfl⟩ (Rt.i ?_)
        first | simp only [if_pos c_4, if_pos c_11, if_pos c_16] | rfl
      · skip
        refine v_iload (pc := 19) 4 dX4_read_19 rfl ?_
        refine v_bipush (pc := 21) (v := 20) dX4_read_21 (by decide) ?_
        refine v_icmp_le (pc := 23) 28 dX4_read_23 (by decide) (fun c_23 => ?_) (fun c_23 => ?_)
        · skip
          exact absurd ⟨c_4, c_11, c_16, c_23⟩ h_k
        · skip
          refine v_iconst (pc := 26) (v := -1) dX4_read_26 (by decide) ?_
          refine v_iret (pc := 27) dX4_read_27 rfl ⟨rfl, rfl⟩ (Rt.i ?_)
          first | simp only [if_pos c_4, if_pos c_11, if_neg c_16, if_neg c_23] | rfl
