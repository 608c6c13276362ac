/-! ===== what the calls change, what they answer ===== -/
theorem byte_c {c : Int32} (h1 : ¬ c < 0) (h2 : c ≤ 127) : vp_nar .byte c.toInt8.toInt32 = c := by
  obtain ⟨j, hj, rfl⟩ := le_ex (b := 127) h1 (Int32.not_lt.mpr h2) (by decide)
  rw [vp_nar_byte, fa_byte_small (by omega), fa_byte_small (by omega)]
theorem RT.feed {tl : Nat} {tx ts kn3 kp3 rl3 spt hre : Int32} {by_ : Nat → Int32} (h : RT (nI tl) (nI tl) tx ts kn3 kp3 rl3 spt hre by_ by_) (htl : tl ≤ 160) (hby : ∀ j, ¬ by_ j = -4) (c : Int32) : RT (nI (if c < 0 then tl else if c ≤ 127 then (if tl < 160 then tl + 1 else tl) else tl)) (nI (if c < 0 then tl else if c ≤ 127 then (if tl < 160 then tl + 1 else tl) else tl)) tx ts kn3 kp3 rl3 spt hre (if c < 0 then by_ else if c ≤ 127 then (if tl < 160 then upd by_ tl (vp_nar .byte (c.toInt8.toInt32)) else by_) else by_) (if c < 0 then by_ else if c ≤ 127 then (if tl < 160 then upd by_ tl c else by_) else by_) := by
  obtain ⟨tl', nx, sa, a, b, d, q, e, e1, e2, e3, e4, e5, e6, e7, e8, e9, e10, -, -⟩ := h
  refine ⟨_, nx, sa, a, b, d, q, e, rfl, rfl, ?_, e4, e5, e6, e7, e8, e9, e10, ?_, ?_⟩
  · repeat' split
    all_goals omega
  · by_cases h1 : c < 0
    · rw [if_pos h1, if_pos h1]
    · rw [if_neg h1, if_neg h1]
      by_cases h2 : c ≤ 127
      · rw [if_pos h2, if_pos h2, byte_c h1 h2]
      · rw [if_neg h2, if_neg h2]
  · intro j
    by_cases h1 : c < 0
    · rw [if_pos h1]; exact hby j
    · rw [if_neg h1]
      by_cases h2 : c ≤ 127
      · rw [if_pos h2, byte_c h1 h2]
        by_cases h3 : tl < 160
        · rw [if_pos h3]
          simp only [upd]
          split
          · exact fun z => h1 (by rw [z]; decide)
          · exact hby j
        · rw [if_neg h3]; exact hby j
      · rw [if_neg h2]; exact hby j
theorem RT.end {tl : Nat} {tx ts kn3 kp3 rl3 spt hre : Int32} {by_ byM : Nat → Int32} (h : RT (nI tl) (nI tl) tx ts kn3 kp3 rl3 spt hre by_ byM) (htl : tl ≤ 160) (n : Int32) : RT (if n < 0 then nI tl else if n ≤ nI tl then n else nI tl) (if n < 0 then nI tl else if n ≤ nI tl then n else nI tl) tx ts kn3 kp3 rl3 spt hre by_ byM := by
  by_cases h1 : n < 0
  · rw [if_pos h1]; exact h
  · rw [if_neg h1]
    by_cases h2 : n ≤ nI tl
    · rw [if_pos h2]
      obtain ⟨j, hj, rfl⟩ := le_ex (b := tl) h1 (Int32.not_lt.mpr h2) (by omega)
      obtain ⟨tl', nx, sa, a, b, d, q, e, e1, e2, e3, e4⟩ := h
      exact ⟨j, nx, sa, a, b, d, q, e, rfl, rfl, by omega, e4⟩
    · rw [if_neg h2]; exact h
section AN
variable {f on wr nd br wo : Nat → Int32} {nt pp rl : Nat} {hm sp td dt : Int32} {w : Nat → Nat}
theorem rule_eq (h38 : f 38 = nI rl) (h39 : f 39 = hm) (h40 : f 40 = sp) (h41 : f 41 = td) (h42 : f 42 = dt) (x : Int32) : (if x = 0 then nI nt else if x = 1 then nI pp else if x = 2 then nI rl else if x = 3 then hm else if x = 4 then sp else if x = 5 then td else if x = 6 then dt else -1) = if x = 0 then nI nt else if x = 1 then nI pp else if ¬ x < 2 ∧ ¬ 6 < x then f (36 + x.toNatClampNeg) else -1 := by
  by_cases c0 : x = 0
  · rw [if_pos c0, if_pos c0]
  rw [if_neg c0, if_neg c0]
  by_cases c1 : x = 1
  · rw [if_pos c1, if_pos c1]
  rw [if_neg c1, if_neg c1]
  by_cases q : ¬ x < 2 ∧ ¬ 6 < x
  · rw [if_pos q]
    obtain ⟨k, hk, rfl⟩ := le_ex (b := 6) (fun z => q.1 (Int32.lt_trans z (by decide))) q.2 (by decide)
    rw [nI_clamp (by omega)]
    have hk2 : ¬ k < 2 := fun z => q.1 (show nI k < nI 2 from nI_lt z (by decide))
    rcases (show k = 2 ∨ k = 3 ∨ k = 4 ∨ k = 5 ∨ k = 6 by omega) with rfl | rfl | rfl | rfl | rfl
    · rw [if_pos (by decide)]; exact h38.symm
    · rw [if_neg (by decide), if_pos (by decide)]; exact h39.symm
    · rw [if_neg (by decide), if_neg (by decide), if_pos (by decide)]; exact h40.symm
    · rw [if_neg (by decide), if_neg (by decide), if_neg (by decide), if_pos (by decide)]; exact h41.symm
    · rw [if_neg (by decide), if_neg (by decide), if_neg (by decide), if_neg (by decide), if_pos (by decide)]; exact h42.symm
  · rw [if_neg q, if_neg (fun e => q (by rw [e]; decide)), if_neg (fun e => q (by rw [e]; decide)), if_neg (fun e => q (by rw [e]; decide)), if_neg (fun e => q (by rw [e]; decide)), if_neg (fun e => q (by rw [e]; decide))]
theorem law_eq (hrl : rl ≤ 8) (hR : RU f nt rl on nd br w) (hw : ∀ k, k < rl → wr k = nI (w k)) (h39 : f 39 = hm) (h41 : f 41 = td) (k x : Int32) : (if okN k rl then (if x = 0 then on k.toNatClampNeg else if x = 1 then wr k.toNatClampNeg else if x = 2 then nd k.toNatClampNeg else if x = 3 then br k.toNatClampNeg else if x = 4 then (if hldP hm (on k.toNatClampNeg) (nd k.toNatClampNeg) (br k.toNatClampNeg) td then 1 else 0) else -1) else -1) = if okN k rl then (if ¬ x < 0 ∧ ¬ 4 < x then (if x = 4 then (if hldM 255 f k.toNatClampNeg (f 41) then 1 else 0) else f (6 + 4 * k.toNatClampNeg + x.toNatClampNeg)) else -1) else -1 := by
  by_cases c : okN k rl
  · rw [if_pos c, if_pos c]
    obtain ⟨j, hj, rfl⟩ := okN_ex c (by omega)
    rw [nI_clamp (by omega)]
    obtain ⟨e1, e2, e3, e4, -⟩ := hR j hj
    by_cases q : ¬ x < 0 ∧ ¬ 4 < x
    · rw [if_pos q]
      obtain ⟨y, hy, rfl⟩ := le_ex (b := 4) q.1 q.2 (by decide)
      rw [nI_clamp (by omega)]
      rcases (show y = 0 ∨ y = 1 ∨ y = 2 ∨ y = 3 ∨ y = 4 by omega) with rfl | rfl | rfl | rfl | rfl
      · rw [if_pos (by decide), if_neg (by decide)]; exact e1.symm
      · rw [if_neg (by decide), if_pos (by decide), if_neg (by decide), hw j hj]; exact e2.symm
      · rw [if_neg (by decide), if_neg (by decide), if_pos (by decide), if_neg (by decide)]; exact e3.symm
      · rw [if_neg (by decide), if_neg (by decide), if_neg (by decide), if_pos (by decide), if_neg (by decide)]; exact e4.symm
      · rw [if_neg (show ¬ nI 4 = 0 by decide), if_neg (show ¬ nI 4 = 1 by decide), if_neg (show ¬ nI 4 = 2 by decide), if_neg (show ¬ nI 4 = 3 by decide), if_pos (show nI 4 = 4 by decide), if_pos (show nI 4 = 4 by decide)]
        have hq := hp_M hrl hR h39 td j hj
        unfold hp hpM at hq
        rw [h41]
        exact ite_iff (decide_eq_decide.mp hq)
    · rw [if_neg q, if_neg (fun e => q (by rw [e]; decide)), if_neg (fun e => q (by rw [e]; decide)), if_neg (fun e => q (by rw [e]; decide)), if_neg (fun e => q (by rw [e]; decide)), if_neg (fun e => q (by rw [e]; decide))]
  · rw [if_neg c, if_neg c]
theorem wo_at {P : Prop} {n : Int32} (hnt : nt ≤ 6) (hWo : ∀ k, k < 6 → f k = wo k ∧ ¬ wo k < -9 ∧ wo k ≤ 9) (h : okN n nt) : f n.toNatClampNeg = wo n.toNatClampNeg := by
  obtain ⟨j, hj, rfl⟩ := okN_ex h (by omega)
  rw [nI_clamp (by omega)]
  exact (hWo j (by omega)).1
theorem worth_eq {n : Int32} (hnt : nt ≤ 6) (hWo : ∀ k, k < 6 → f k = wo k ∧ ¬ wo k < -9 ∧ wo k ≤ 9) : (if okN n nt then 100 + f n.toNatClampNeg else -1) = if okN n nt then 100 + wo n.toNatClampNeg else -1 := by
  by_cases h : okN n nt
  · rw [if_pos h, if_pos h, wo_at (P := True) hnt hWo h]
  · rw [if_neg h, if_neg h]
theorem mk_ne {g : Nat → Int32} {C : Prop} [Decidable C] {a : Nat} {x : Int32} {P : Prop} [Decidable P] {j : Nat} (h : j ≠ a) : (if C then mkF g a x P else g) j = g j := by
  split
  · exact mkF_ne h
  · rfl
theorem mk_at {g : Nat → Int32} {C : Prop} [Decidable C] {a : Nat} {x v : Int32} {P : Prop} [Decidable P] (e : g a = v) : (if C then mkF g a x P else g) a = if C then wb v x P else v := by
  by_cases c : C
  · rw [if_pos c, if_pos c, wbmk, e]
  · rw [if_neg c, if_neg c, e]
theorem home_ans {p : Int32} {α : Type} {u v : α} : (if p < 0 then v else if p < nI pp then u else v) = if okN p pp then u else v := by
  by_cases h1 : p < 0
  · rw [if_pos h1, if_neg (fun q => q.1 h1)]
  · rw [if_neg h1]
    by_cases h2 : p < nI pp
    · rw [if_pos h2, if_pos ⟨h1, Int32.not_le.mpr h2⟩]
    · rw [if_neg h2, if_neg (fun q => q.2 (Int32.not_lt.mp h2))]
theorem RS.write {x : Int32} {P : Prop} [Decidable P] (h : RS f nt (nI rl) hm sp td dt on wr nd br wo) (hnt : nt ≤ 6) (h40 : f 40 = sp) (hTd : Wd 64 td) : RS (if refu nt (f 40) x P = 0 then mkF f 41 x P else f) nt (nI rl) hm sp (if refu nt sp x P = 0 then wb td x P else td) dt on wr nd br wo := by
  obtain ⟨-, -, -, -, -, h39, -, h41, h42, -⟩ := id h
  refine h.sc (fun j hj => mk_ne (by omega)) (by rw [mk_ne (by decide)]; exact h39) (by rw [mk_ne (by decide)]; exact h40) (by rw [mk_at h41, h40]) (by rw [mk_ne (by decide)]; exact h42) ?_
  by_cases q : refu nt sp x P = 0
  · rw [if_pos q]; exact wb_W hnt hTd (refu_ok q)
  · rw [if_neg q]; exact hTd
theorem RS.home {x : Int32} {P : Prop} [Decidable P] (h : RS f nt (nI rl) hm sp td dt on wr nd br wo) : RS (if okN x pp then mkF f 39 x P else f) nt (nI rl) (if x < 0 then hm else if x < nI pp then wb hm x P else hm) sp td dt on wr nd br wo := by
  obtain ⟨-, -, -, -, -, h39, h40, h41, h42, hTd, -⟩ := id h
  rw [home_ans]
  exact h.sc (fun j hj => mk_ne (by omega)) (mk_at h39) (by rw [mk_ne (by decide)]; exact h40) (by rw [mk_ne (by decide)]; exact h41) (by rw [mk_ne (by decide)]; exact h42) hTd
theorem RS.stop {x : Int32} {P : Prop} [Decidable P] (h : RS f nt (nI rl) hm sp td dt on wr nd br wo) : RS (if okN x nt then mkF f 40 x P else f) nt (nI rl) hm (if okN x nt then wb sp x P else sp) td dt on wr nd br wo := by
  obtain ⟨-, -, -, -, -, h39, h40, h41, h42, hTd, -⟩ := id h
  exact h.sc (fun j hj => mk_ne (by omega)) (by rw [mk_ne (by decide)]; exact h39) (mk_at h40) (by rw [mk_ne (by decide)]; exact h41) (by rw [mk_ne (by decide)]; exact h42) hTd
theorem mkF_upd {g : Nat → Int32} {a : Nat} {x : Int32} {P : Prop} [Decidable P] : mkF g a x P = upd g a (wb (g a) x P) := by
  rw [← wbmk]
  funext j
  by_cases e : j = a
  · subst e; rw [pk_us]
  · rw [pk_un e, mkF_ne e]
theorem need_ans {k x : Int32} {P : Prop} [Decidable P] (hrl : rl ≤ 8) (hR : RU f nt rl on nd br w) : (if okN k rl then (if okN x nt then (if P ∧ bt1 (f (6 + 4 * k.toNatClampNeg + 3)) x = 1 then -2 else bt1 (f (6 + 4 * k.toNatClampNeg + 2)) x) else -1) else -1) = chgR rl nt nd br k x P := by
  unfold chgR
  by_cases c : okN k rl
  · obtain ⟨j, hj, rfl⟩ := okN_ex c (by omega)
    rw [if_pos c, if_pos c, nI_clamp (by omega), (hR j hj).2.2.1, (hR j hj).2.2.2.1]
  · rw [if_neg c, if_neg c]
theorem bar_ans {k x : Int32} {P : Prop} [Decidable P] (hrl : rl ≤ 8) (hR : RU f nt rl on nd br w) : (if okN k rl then (if okN x nt then (if P ∧ bt1 (f (6 + 4 * k.toNatClampNeg + 2)) x = 1 then -2 else bt1 (f (6 + 4 * k.toNatClampNeg + 3)) x) else -1) else -1) = chgR rl nt br nd k x P := by
  unfold chgR
  by_cases c : okN k rl
  · obtain ⟨j, hj, rfl⟩ := okN_ex c (by omega)
    rw [if_pos c, if_pos c, nI_clamp (by omega), (hR j hj).2.2.1, (hR j hj).2.2.2.1]
  · rw [if_neg c, if_neg c]
theorem RS.needC {k x : Int32} {P : Prop} [Decidable P] (h : RS f nt (nI rl) hm sp td dt on wr nd br wo) (hnt : nt ≤ 6) (hrl : rl ≤ 8) (hR : RU f nt rl on nd br w) : RS (if okN k rl then (if okN x nt then (if P ∧ bt1 (f (6 + 4 * k.toNatClampNeg + 3)) x = 1 then f else mkF f (6 + 4 * k.toNatClampNeg + 2) x P) else f) else f) nt (nI rl) hm sp td dt on wr (chgF rl nt nd br k x P) br wo := by
  unfold chgF
  by_cases c : okN k rl
  · obtain ⟨j, hj, rfl⟩ := okN_ex c (by omega)
    rw [if_pos c, if_pos c, nI_clamp (by omega), (hR j hj).2.2.2.1]
    by_cases c2 : okN x nt
    · rw [if_pos c2, if_pos c2]
      by_cases c3 : P ∧ bt1 (br j) x = 1
      · rw [if_pos c3, if_pos c3]; exact h
      · rw [if_neg c3, if_neg c3, mkF_upd, (hR j hj).2.2.1]
        exact h.need (by omega) (wb_W hnt (hR j hj).2.2.2.2.2.1 c2)
    · rw [if_neg c2, if_neg c2]; exact h
  · rw [if_neg c, if_neg c]; exact h
theorem RS.barC {k x : Int32} {P : Prop} [Decidable P] (h : RS f nt (nI rl) hm sp td dt on wr nd br wo) (hnt : nt ≤ 6) (hrl : rl ≤ 8) (hR : RU f nt rl on nd br w) : RS (if okN k rl then (if okN x nt then (if P ∧ bt1 (f (6 + 4 * k.toNatClampNeg + 2)) x = 1 then f else mkF f (6 + 4 * k.toNatClampNeg + 3) x P) else f) else f) nt (nI rl) hm sp td dt on wr nd (chgF rl nt br nd k x P) wo := by
  unfold chgF
  by_cases c : okN k rl
  · obtain ⟨j, hj, rfl⟩ := okN_ex c (by omega)
    rw [if_pos c, if_pos c, nI_clamp (by omega), (hR j hj).2.2.1]
    by_cases c2 : okN x nt
    · rw [if_pos c2, if_pos c2]
      by_cases c3 : P ∧ bt1 (nd j) x = 1
      · rw [if_pos c3, if_pos c3]; exact h
      · rw [if_neg c3, if_neg c3, mkF_upd, (hR j hj).2.2.2.1]
        exact h.bar (by omega) (wb_W hnt (hR j hj).2.2.2.2.2.2 c2)
    · rw [if_neg c2, if_neg c2]; exact h
  · rw [if_neg c, if_neg c]; exact h
theorem am_ne {k x : Int32} {u v : Nat} {P : Prop} [Decidable P] {i : Nat} (hrl : rl ≤ 8) (hu : u < 4) (hi : 43 ≤ i) : (if okN k rl then (if okN x nt then (if P ∧ bt1 (f (6 + 4 * k.toNatClampNeg + v)) x = 1 then f else mkF f (6 + 4 * k.toNatClampNeg + u) x P) else f) else f) i = f i := by
  by_cases c : okN k rl
  · obtain ⟨j, hj, rfl⟩ := okN_ex c (by omega)
    rw [if_pos c, nI_clamp (by omega)]
    repeat' split
    all_goals first | rfl | exact mkF_ne (by omega)
  · rw [if_neg c]
theorem pay_ans {n v : Int32} (hnt : nt ≤ 6) (hWo : ∀ k, k < 6 → f k = wo k ∧ ¬ wo k < -9 ∧ wo k ≤ 9) : (if okN n nt then (if ¬ v < -9 ∧ ¬ 9 < v then 100 + f n.toNatClampNeg else -1) else -1) = if okN n nt then (if v < -9 then -1 else if v ≤ 9 then 100 + wo n.toNatClampNeg else -1) else -1 := by
  rw [inR]
  by_cases h : okN n nt
  · rw [if_pos h, if_pos h, wo_at (P := True) hnt hWo h]
  · rw [if_neg h, if_neg h]
theorem RS.payC {n v : Int32} (h : RS f nt (nI rl) hm sp td dt on wr nd br wo) (hnt : nt ≤ 6) : RS (if okN n nt then (if ¬ v < -9 ∧ ¬ 9 < v then upd f n.toNatClampNeg v else f) else f) nt (nI rl) hm sp td dt on wr nd br (if okN n nt then (if v < -9 then wo else if v ≤ 9 then upd wo n.toNatClampNeg v else wo) else wo) := by
  rw [inR]
  by_cases c : okN n nt
  · rw [if_pos c, if_pos c]
    obtain ⟨j, hj, rfl⟩ := okN_ex c (by omega)
    rw [nI_clamp (by omega)]
    by_cases c2 : ¬ v < -9 ∧ ¬ 9 < v
    · rw [if_pos c2, if_pos c2]; exact h.pay (by omega) ⟨c2.1, Int32.not_lt.mp c2.2⟩
    · rw [if_neg c2, if_neg c2]; exact h
  · rw [if_neg c, if_neg c]; exact h
theorem pay_ne {n v : Int32} {i : Nat} (hnt : nt ≤ 6) (hi : 43 ≤ i) : (if okN n nt then (if ¬ v < -9 ∧ ¬ 9 < v then upd f n.toNatClampNeg v else f) else f) i = f i := by
  by_cases c : okN n nt
  · obtain ⟨j, hj, rfl⟩ := okN_ex c (by omega)
    rw [if_pos c, nI_clamp (by omega)]
    split
    · exact pk_un (by omega)
    · rfl
  · rw [if_neg c]
theorem RS.cutC {n : Int32} (h : RS f nt (nI rl) hm sp td dt on wr nd br wo) (hrl : rl ≤ 8) : RS (if ¬ n < 0 ∧ ¬ nI rl < n then upd f 38 n else f) nt (if n < 0 then nI rl else if n ≤ nI rl then n else nI rl) hm sp td dt on wr nd br wo := by
  rw [inR]
  by_cases c : ¬ n < 0 ∧ ¬ nI rl < n
  · rw [if_pos c, if_pos c]
    obtain ⟨m, hm', rfl⟩ := le_ex (b := rl) c.1 c.2 (by omega)
    exact h.cut hrl hm'
  · rw [if_neg c, if_neg c]; exact h
theorem itr_W {x : Int32} (hnt : nt ≤ 6) (hR : RU f nt rl on nd br w) (hw : ∀ k, k < rl → wr k = nI (w k)) (hx : Wd 64 x) : ∀ m, Wd 64 (itr (outc rl hm sp on wr nd br) m x) := by
  intro m
  cases m with
  | zero => exact hx
  | succ m =>
    obtain ⟨y, hy, e⟩ := outc_N (on := on) (nd := nd) (br := br) (hm := hm) (sp := sp) (b := 6) (by decide) (fun k hk => ⟨hw k hk, by have := (hR k hk).2.2.2.2.1; omega⟩) (itr (outc rl hm sp on wr nd br) m x)
    exact ⟨y, hy, e⟩
theorem itr_c {o o2 : Int32 → Int32} (h : ∀ x, o x = o2 x) (m : Nat) (x : Int32) : itr o m x = itr o2 m x := by
  have : o = o2 := funext h
  rw [this]
theorem RS.day {n : Int32} (h : RS f nt (nI rl) hm sp td dt on wr nd br wo) (hnt : nt ≤ 6) (hrl : rl ≤ 8) (hR : RU f nt rl on nd br w) (hw : ∀ k, k < rl → wr k = nI (w k)) : RS (if ¬ n < 0 ∧ ¬ 60 < n then (if f 42 + n ≤ 999 then upd (upd f 41 (itr (outM rl 255 f) n.toNatClampNeg (f 41))) 42 (f 42 + n) else f) else f) nt (nI rl) hm sp (if n < 0 then td else if n ≤ 60 then (if dt + n < 1000 then itr (outc rl hm sp on wr nd br) n.toNatClampNeg td else td) else td) (if n < 0 then dt else if n ≤ 60 then (if dt + n < 1000 then dt + n else dt) else dt) on wr nd br wo := by
  obtain ⟨-, -, -, -, -, h39, h40, h41, h42, hTd, -⟩ := id h
  rw [inR, inR]
  by_cases c : ¬ n < 0 ∧ ¬ 60 < n
  · rw [if_pos c, if_pos c, if_pos c, h42]
    by_cases c2 : dt + n < 1000
    · rw [if_pos c2, if_pos c2, if_pos (lt1000.mp c2)]
      have e := itr_c (out_M hrl hR hw h39 h40) n.toNatClampNeg td
      refine h.sc (fun j hj => by rw [pk_un (by omega), pk_un (by omega)]) (by rw [pk_un (by decide), pk_un (by decide)]; exact h39) (by rw [pk_un (by decide), pk_un (by decide)]; exact h40) (by rw [pk_un (by decide), pk_us, h41, e]) pk_us (itr_W hnt hR hw hTd _)
    · rw [if_neg c2, if_neg c2, if_neg (fun z => c2 (lt1000.mpr z))]; exact h
  · rw [if_neg c, if_neg c, if_neg c]; exact h
theorem day_ans {n : Int32} (hrl : rl ≤ 8) (hR : RU f nt rl on nd br w) (hw : ∀ k, k < rl → wr k = nI (w k)) (h39 : f 39 = hm) (h40 : f 40 = sp) (h41 : f 41 = td) (h42 : f 42 = dt) : (if ¬ n < 0 ∧ ¬ 60 < n then (if f 42 + n ≤ 999 then itr (outM rl 255 f) n.toNatClampNeg (f 41) else -3) else -1) = if n < 0 then -1 else if n ≤ 60 then (if dt + n < 1000 then itr (outc rl hm sp on wr nd br) n.toNatClampNeg td else -3) else -1 := by
  rw [inR, h42, h41, itr_c (out_M hrl hR hw h39 h40) n.toNatClampNeg td]
  by_cases c2 : dt + n < 1000
  · rw [if_pos c2, if_pos (lt1000.mp c2)]
  · rw [if_neg c2, if_neg (fun z => c2 (lt1000.mpr z))]
theorem day_ne {n a v : Int32} {i : Nat} (hi : 43 ≤ i) : (if ¬ n < 0 ∧ ¬ 60 < n then (if f 42 + n ≤ 999 then upd (upd f 41 a) 42 v else f) else f) i = f i := by
  repeat' split
  all_goals first | rfl | (rw [pk_un (by omega), pk_un (by omega)])
theorem dr_c {o o2 : Int32 → Int32} (h : ∀ x, o x = o2 x) (k : Nat) (sd t : Int32) (m : Nat) : drK o k sd t m = drK o2 k sd t m := by
  have : o = o2 := funext h
  rw [this]
end AN
theorem RZ.see {nt se : Nat} {sn sh sq : Nat → Int32} {n : Int32} {P : Prop} [Decidable P] (h : RZ nt (nI se) (nI se) sn sh sq) (hnt : nt ≤ 6) (hse : se ≤ 8) : RZ nt (if okN n nt then (if se < 8 then nI (se + 1) else nI se) else nI se) (if okN n nt then (if se = 8 then nI se else nI (se + 1)) else nI se) (if okN n nt then (if se < 8 then upd sn se n else sn) else sn) (if okN n nt then (if se < 8 then upd sh se (vp_nar .boolean (if P then 1 else 0)) else sh) else sh) (if okN n nt then (if se = 8 then sq else upd (upd sq (2 * se) n) (2 * se + 1) (if P then 1 else 0)) else sq) := by
  by_cases c : okN n nt
  · rw [if_pos c, if_pos c, if_pos c, if_pos c, if_pos c]
    by_cases c2 : se < 8
    · rw [if_pos c2, if_pos c2, if_pos c2, if_neg (show ¬ se = 8 by omega), if_neg (show ¬ se = 8 by omega)]
      obtain ⟨j, hj, rfl⟩ := okN_ex c (by omega)
      obtain ⟨se', s2, e1, e2, e3, e4⟩ := h
      obtain rfl : se = se' := (nI_eq (by omega) (by omega)).mp e1
      have hb : vp_nar .boolean (if P then 1 else 0) = if P then 1 else 0 := by by_cases p : P <;> simp [p] <;> decide
      refine ⟨se + 1, fun i => if i = se then j else s2 i, rfl, rfl, by omega, fun i hi => ?_⟩
      dsimp only
      by_cases e : i = se
      · subst e
        rw [pk_us, pk_us, if_pos rfl, pk_un (by omega), pk_us, pk_us, hb]
        exact ⟨rfl, hj, rfl, rfl, by by_cases p : P <;> simp [p]⟩
      · rw [pk_un e, pk_un e, if_neg e, pk_un (by omega), pk_un (by omega), pk_un (by omega), pk_un (by omega)]
        exact e4 i (by omega)
    · rw [if_neg c2, if_neg c2, if_neg c2, if_pos (show se = 8 by omega), if_pos (show se = 8 by omega)]; exact h
  · rw [if_neg c, if_neg c, if_neg c, if_neg c, if_neg c]; exact h
theorem see_ans {nt se : Nat} {n : Int32} (hse : se ≤ 8) : (if okN n nt then (if se = 8 then (-3 : Int32) else nI (se + 1)) else -1) = if okN n nt then (if se < 8 then nI (se + 1) else -3) else -1 := by
  by_cases c : se = 8
  · rw [if_pos c, if_neg (show ¬ se < 8 by omega)]
  · rw [if_neg c, if_pos (show se < 8 by omega)]
theorem RZ.forget {nt se : Nat} {sn sh sq : Nat → Int32} {n : Int32} (h : RZ nt (nI se) (nI se) sn sh sq) (hse : se ≤ 8) : RZ nt (if n < 0 then nI se else if n ≤ nI se then n else nI se) (if ¬ n < 0 ∧ ¬ nI se < n then n else nI se) sn sh sq := by
  rw [inR]
  by_cases c : ¬ n < 0 ∧ ¬ nI se < n
  · rw [if_pos c]
    obtain ⟨m, hm', rfl⟩ := le_ex (b := se) c.1 c.2 (by omega)
    obtain ⟨se', s2, e1, e2, e3, e4⟩ := h
    obtain rfl : se = se' := (nI_eq (by omega) (by omega)).mp e1
    exact ⟨m, s2, rfl, rfl, by omega, fun j hj => e4 j (by omega)⟩
  · rw [if_neg c]; exact h
