/-! THE REFERENCE: makesOne, doMakes, and the public changes -/
def pairR (i : Nat) (x : Int) (j : Nat) (y : Int) : Row := fun k => if k = i then x else if k = j then y else 0
def mk1 (a : Ar) (i : Nat) (x : Int) (j : Nat) (y : Int) : Ar := if a.2.1 < 9 then aAdd a (pairR i x j y) else a
def mkA (p : Ar) : Nat → Ar
  | 0 => p
  | i + 1 => mk1 (mkA p i) i 1 i 1
def mkI (κ j : Nat) (p : Ar) : Nat → Ar
  | 0 => p
  | i + 1 => if 1 < κ then mk1 (mk1 (mkI κ j p i) i 1 j (-1)) i 1 j 1 else mk1 (mkI κ j p i) i 1 j (-1)
def mkB (κ : Nat) (p : Ar) : Nat → Ar
  | 0 => p
  | n + 1 => mkI κ (n + 1) (mkB κ p n) (n + 1)
def aMk0 (d κ : Nat) : Ar := if κ = 0 ∨ κ = 3 then mkA (aSpace d) d else aSpace d
def aMakes (d κ : Nat) : Ar := if 0 < κ then mkB κ (aMk0 d κ) (d - 1) else aMk0 d κ
/-- all that an arrangement is but for its planes' being different -/
def Pre (d : Nat) (a : Ar) : Prop := a.1 = d ∧ a.2.1 ≤ 9 ∧ (∀ i j, -3 ≤ a.2.2 i j ∧ a.2.2 i j ≤ 3) ∧ (∀ i j, d ≤ j → a.2.2 i j = 0) ∧ ∀ i, a.2.1 ≤ i → ∀ j, a.2.2 i j = 0
theorem Pre.sp (d : Nat) : Pre d (aSpace d) := ⟨rfl, Nat.zero_le _, fun _ _ => (by decide : (-3 : Int) ≤ 0 ∧ (0 : Int) ≤ 3), fun _ _ _ => rfl, fun _ _ _ => rfl⟩
theorem Pre.mk {d : Nat} {a : Ar} (h : Pre d a) {i j : Nat} {x y : Int} (hi : i < d) (hj : j < d) (hx : -3 ≤ x ∧ x ≤ 3) (hy : -3 ≤ y ∧ y ≤ 3) : Pre d (mk1 a i x j y) := by
  unfold mk1
  split
  · rename_i q
    obtain ⟨h1, h2, h3, h4, h5⟩ := h
    refine ⟨h1, by show a.2.1 + 1 ≤ 9; omega, fun m l => ?_, fun m l hl => ?_, fun m hm l => ?_⟩
    · show -3 ≤ (if m = a.2.1 then pairR i x j y l else a.2.2 m l) ∧ (if m = a.2.1 then pairR i x j y l else a.2.2 m l) ≤ 3
      have := h3 m l
      unfold pairR
      split
      · split
        · exact hx
        · split
          · exact hy
          · omega
      · exact this
    · show (if m = a.2.1 then pairR i x j y l else a.2.2 m l) = 0
      rw [show pairR i x j y l = 0 from by unfold pairR; rw [if_neg (by omega), if_neg (by omega)], h4 m l hl]
      split <;> rfl
    · have : a.2.1 + 1 ≤ m := hm
      show (if m = a.2.1 then pairR i x j y l else a.2.2 m l) = 0
      rw [if_neg (by omega)]
      exact h5 m (by omega) l
  · exact h
theorem Pre.mA {d : Nat} : ∀ n, n ≤ d → Pre d (mkA (aSpace d) n) := by
  intro n
  induction n with
  | zero => intro _; exact Pre.sp d
  | succ n ih => intro h; exact (ih (by omega)).mk (by omega) (by omega) (by omega) (by omega)
theorem Pre.mI {d κ j : Nat} {p : Ar} (hp : Pre d p) (hj : j < d) : ∀ n, n ≤ d → Pre d (mkI κ j p n) := by
  intro n
  induction n with
  | zero => intro _; exact hp
  | succ n ih =>
    intro h
    have h1 := (ih (by omega)).mk (i := n) (j := j) (x := 1) (y := -1) (by omega) hj (by omega) (by omega)
    unfold mkI
    split
    · exact h1.mk (by omega) hj (by omega) (by omega)
    · exact h1
theorem Pre.mB {d κ : Nat} {p : Ar} (hp : Pre d p) : ∀ n, n < d → Pre d (mkB κ p n) := by
  intro n
  induction n with
  | zero => intro _; exact hp
  | succ n ih => intro h; exact Pre.mI (ih (by omega)) h _ (by omega)
theorem Pre.m0 (d κ : Nat) : Pre d (aMk0 d κ) := by
  unfold aMk0
  split
  · exact Pre.mA d (Nat.le_refl d)
  · exact Pre.sp d
theorem Pre.mks {d κ : Nat} (hd : 0 < d) : Pre d (aMakes d κ) := by
  unfold aMakes
  split
  · exact Pre.mB (Pre.m0 d κ) _ (by omega)
  · exact Pre.m0 d κ
def simB (N : Nat) (v : Nat → Row) : Bool := (List.range N).all (fun i => (List.range 4).any (fun j => v i j != 0)) && (List.range N).all (fun i => (List.range N).all (fun k => i == k || (List.range 4).any (fun j => (List.range 4).any (fun l => v i j * v k l != v i l * v k j))))
theorem simB_ok {N : Nat} {v : Nat → Row} (h : simB N v = true) : Sim N v := by
  unfold simB at h
  rw [Bool.and_eq_true, List.all_eq_true, List.all_eq_true] at h
  refine ⟨fun i hi => ?_, fun i k hi hk hik => ?_⟩
  · have := h.1 i (List.mem_range.mpr hi)
    rw [List.any_eq_true] at this
    obtain ⟨j, hj, e⟩ := this
    exact ⟨j, List.mem_range.mp hj, by simpa using e⟩
  · have := h.2 i (List.mem_range.mpr hi)
    rw [List.all_eq_true] at this
    have := this k (List.mem_range.mpr hk)
    rw [Bool.or_eq_true] at this
    rcases this with z | z
    · exact absurd (by simpa using z) hik
    · rw [List.any_eq_true] at z
      obtain ⟨j, hj, z⟩ := z
      rw [List.any_eq_true] at z
      obtain ⟨l, hl, z⟩ := z
      exact ⟨j, l, List.mem_range.mp hj, List.mem_range.mp hl, by simpa using z⟩
theorem makes_sim : ∀ d, d < 5 → ∀ κ, κ < 4 → simB (aMakes d κ).2.1 (aMakes d κ).2.2 = true := by decide +kernel
theorem arr_makes {d κ : Nat} (h : 2 ≤ d) (h' : d ≤ 4) (hκ : κ < 4) : Arr (aMakes d κ).1 (aMakes d κ).2.1 (aMakes d κ).2.2 := by
  obtain ⟨p1, p2, p3, p4, p5⟩ := Pre.mks (d := d) (κ := κ) (by omega)
  refine ⟨by omega, by omega, p2, p3, fun i j hj => p4 i j (by omega), p5, of_sim p2 p3 (simB_ok (makes_sim d (by omega) κ hκ))⟩
set_option maxRecDepth 100000 in
set_option maxHeartbeats 4000000 in
theorem k_mo_l (S0 : amS) (a : Ar) (h9 : a.2.1 ≤ 9) (i j : Nat) (hi : i < 4) (hj : j < 4) (x y : Int) (U V : Int32) (hU : U = i32 x) (hV : V = i32 y) : ∀ (k t : Nat) (S : amS), t + k = 4 → On S0 S → nRow (S.2.1 1) a → (∀ j', j' < t → S.2.1 13 j' = i32 (pairR i x j y j')) → X shM mX11_makesOne 3 [.ref 0, .int (nI i), .int U, .int (nI j), .int V, .int (nI t)] [] S (fun q S' => q = none ∧ On S0 S' ∧ nRow (S'.2.1 1) (mk1 a i x j y)) := by
  intro k
  induction k with
  | zero =>
    intro t S h1 h2 h3 h4
    obtain rfl : t = 4 := by omega
    refine x_iload dX11_makesOne_3 rfl ?_
    refine x_ic _ ic_4 dX11_makesOne_5 ?_
    refine x_icmp_geN 44 dX11_makesOne_6 rfl (by omega) (by omega) (fun c6 => ?_) (fun c6 => ?_)
    · refine x_aload_n dX11_makesOne_44 rfl ?_
      refine x_v0 (N := mX11_addsTold) dX11_makesOne_45 ml_X11_148 nv_X11_addsTold rfl rfl (k_addsTold S a h9 h3 (pairR i x j y) h4) ?_
      rintro _ S' ⟨rfl, ho, hr⟩
      refine x_ret dX11_makesOne_48 rfl ?_
      exact ⟨rfl, h2.tr ho, hr⟩
    · exact absurd c6 (by omega)
  | succ k ih =>
    intro t S h1 h2 h3 h4
    have hst : ∀ W : Int32, W = i32 (pairR i x j y t) → X shM mX11_makesOne 37 [.ref 0, .int (nI i), .int U, .int (nI j), .int V, .int (nI t)] [.int W, .int (nI t), .ref 13] S (fun q S' => q = none ∧ On S0 S' ∧ nRow (S'.2.1 1) (mk1 a i x j y)) := by
      intro W hW
      refine x_iastN dX11_makesOne_37 rfl rfl (by omega) ?_
      refine x_iincN dX11_makesOne_38 rfl rfl ?_
      refine x_goto 3 dX11_makesOne_41 rfl ?_
      refine ih (t + 1) _ (by omega) (h2.sA _ (Or.inr rfl)) h3 (fun j' hj' => ?_)
      rw [sA_at]
      by_cases q : j' = t
      · subst q; rw [upd_s, hW]
      · rw [upd_n _ _ q]; exact h4 j' (by omega)
    refine x_iload dX11_makesOne_3 rfl ?_
    refine x_ic _ ic_4 dX11_makesOne_5 ?_
    refine x_icmp_geN 44 dX11_makesOne_6 rfl (by omega) (by omega) (fun c6 => ?_) (fun c6 => ?_)
    · exact absurd c6 (by omega)
    · refine x_aload_n dX11_makesOne_9 rfl ?_
      refine x_getR dX11_makesOne_10 fl_X11_51 rfl ?_
      refine x_iload dX11_makesOne_13 rfl ?_
      refine x_iload dX11_makesOne_15 rfl ?_
      refine x_iload_n dX11_makesOne_17 rfl ?_
      refine x_icmp_neN 25 dX11_makesOne_18 rfl (by omega) (by omega) (fun c18 => ?_) (fun c18 => ?_)
      · refine x_iload dX11_makesOne_25 rfl ?_
        refine x_iload_n dX11_makesOne_27 rfl ?_
        refine x_icmp_neN 36 dX11_makesOne_28 rfl (by omega) (by omega) (fun c28 => ?_) (fun c28 => ?_)
        · refine x_ic _ ic_0 dX11_makesOne_36 ?_
          exact hst (nI 0) (by unfold pairR; rw [if_neg c18, if_neg c28]; rfl)
        · refine x_iload dX11_makesOne_31 rfl ?_
          refine x_goto 37 dX11_makesOne_33 rfl ?_
          exact hst V (by rw [hV]; unfold pairR; rw [if_neg c18, if_pos c28])
      · refine x_iload_n dX11_makesOne_21 rfl ?_
        refine x_goto 37 dX11_makesOne_22 rfl ?_
        exact hst U (by rw [hU]; unfold pairR; rw [if_pos c18])
set_option maxRecDepth 100000 in
set_option maxHeartbeats 4000000 in
theorem k_makesOne (S : amS) (a : Ar) (h9 : a.2.1 ≤ 9) (i j : Nat) (hi : i < 4) (hj : j < 4) (x y : Int) (U V : Int32) (hU : U = i32 x) (hV : V = i32 y) (hm : nRow (S.2.1 1) a) : X shM mX11_makesOne 0 [.ref 0, .int (nI i), .int U, .int (nI j), .int V, .null] [] S (fun q S' => q = none ∧ On S S' ∧ nRow (S'.2.1 1) (mk1 a i x j y)) := by
  refine x_ic _ ic_0 dX11_makesOne_0 ?_
  refine x_istore dX11_makesOne_1 rfl ?_
  exact k_mo_l S a h9 i j hi hj x y U V hU hV 4 0 S (by omega) (On.rf S) hm (fun j' e => by omega)
set_option maxRecDepth 100000 in
set_option maxHeartbeats 4000000 in
theorem k_mk_1 (S0 : amS) (d : Nat) (hd : 2 ≤ d ∧ d ≤ 4) (κ : Nat) (hκ : κ < 4) (Q : Option Value → amS → Prop) (h03 : κ = 0 ∨ κ = 3) (hq : ∀ S, On S0 S → nRow (S.2.1 1) (mkA (aSpace d) d) → X shM mX11_doMakes 56 [.ref 0, .int (nI κ), .int (nI d), .null] [] S Q) : ∀ (k i : Nat) (S : amS), i + k = d → On S0 S → nRow (S.2.1 1) (mkA (aSpace d) i) → X shM mX11_doMakes 22 [.ref 0, .int (nI κ), .int (nI i), .null] [] S Q := by
  intro k
  induction k with
  | zero =>
    intro i S h1 h2 h3
    obtain rfl : i = d := by omega
    have e6 : S.2.1 1 36 = nI i := h3.1.trans (by rw [(Pre.mA (d := i) i (by omega)).1])
    refine x_iload_n dX11_doMakes_22 rfl ?_
    refine x_aload_n dX11_doMakes_23 rfl ?_
    refine x_getR dX11_doMakes_24 fl_X11_7 rfl ?_
    refine x_bi _ bi_36 dX11_doMakes_27 ?_
    refine x_ialdN dX11_doMakes_29 rfl rfl (by omega) (e6) ?_
    refine x_icmp_geN 56 dX11_doMakes_30 rfl (by omega) (by omega) (fun c30 => ?_) (fun c30 => ?_)
    · exact hq S h2 h3
    · exact absurd c30 (by omega)
  | succ k ih =>
    intro i S h1 h2 h3
    have hp := Pre.mA (d := d) i (by omega)
    have e6 : S.2.1 1 36 = nI d := h3.1.trans (by rw [hp.1])
    refine x_iload_n dX11_doMakes_22 rfl ?_
    refine x_aload_n dX11_doMakes_23 rfl ?_
    refine x_getR dX11_doMakes_24 fl_X11_7 rfl ?_
    refine x_bi _ bi_36 dX11_doMakes_27 ?_
    refine x_ialdN dX11_doMakes_29 rfl rfl (by omega) (e6) ?_
    refine x_icmp_geN 56 dX11_doMakes_30 rfl (by omega) (by omega) (fun c30 => ?_) (fun c30 => ?_)
    · exact absurd c30 (by omega)
    · refine x_iload_n dX11_doMakes_33 rfl ?_
      refine x_if_eqN 42 dX11_doMakes_34 rfl (by omega) (fun c34 => ?_) (fun c34 => ?_)
      · refine x_aload_n dX11_doMakes_42 rfl ?_
        refine x_iload_n dX11_doMakes_43 rfl ?_
        refine x_ic _ ic_1 dX11_doMakes_44 ?_
        refine x_iload_n dX11_doMakes_45 rfl ?_
        refine x_ic _ ic_1 dX11_doMakes_46 ?_
        refine x_v4 (N := mX11_makesOne) dX11_doMakes_47 ml_X11_154 nv_X11_makesOne rfl rfl (k_makesOne S (mkA (aSpace d) i) hp.2.1 i i (by omega) (by omega) 1 1 (nI 1) (nI 1) rfl rfl h3) ?_
        rintro _ S' ⟨rfl, ho, hr⟩
        refine x_iincN dX11_doMakes_50 rfl rfl ?_
        refine x_goto 22 dX11_doMakes_53 rfl ?_
        exact ih (i + 1) S' (by omega) (h2.tr ho) hr
      · refine x_iload_n dX11_doMakes_37 rfl ?_
        refine x_ic _ ic_3 dX11_doMakes_38 ?_
        refine x_icmp_neN 56 dX11_doMakes_39 rfl (by omega) (by omega) (fun c39 => ?_) (fun c39 => ?_)
        · exact absurd h03 (by omega)
        · refine x_aload_n dX11_doMakes_42 rfl ?_
          refine x_iload_n dX11_doMakes_43 rfl ?_
          refine x_ic _ ic_1 dX11_doMakes_44 ?_
          refine x_iload_n dX11_doMakes_45 rfl ?_
          refine x_ic _ ic_1 dX11_doMakes_46 ?_
          refine x_v4 (N := mX11_makesOne) dX11_doMakes_47 ml_X11_154 nv_X11_makesOne rfl rfl (k_makesOne S (mkA (aSpace d) i) hp.2.1 i i (by omega) (by omega) 1 1 (nI 1) (nI 1) rfl rfl h3) ?_
          rintro _ S' ⟨rfl, ho, hr⟩
          refine x_iincN dX11_doMakes_50 rfl rfl ?_
          refine x_goto 22 dX11_doMakes_53 rfl ?_
          exact ih (i + 1) S' (by omega) (h2.tr ho) hr
set_option maxRecDepth 100000 in
set_option maxHeartbeats 4000000 in
theorem k_mk_2 (S0 : amS) (d : Nat) (hd : 2 ≤ d ∧ d ≤ 4) (κ : Nat) (hκ : κ < 4) (Q : Option Value → amS → Prop) (hκ0 : 0 < κ) (j : Nat) (hj : j < d) (p : Ar) (hp : Pre d p) (hq : ∀ S, On S0 S → nRow (S.2.1 1) (mkI κ j p j) → X shM mX11_doMakes 107 [.ref 0, .int (nI κ), .int (nI j), .int (nI j)] [] S Q) : ∀ (k i : Nat) (S : amS), i + k = j → On S0 S → nRow (S.2.1 1) (mkI κ j p i) → X shM mX11_doMakes 75 [.ref 0, .int (nI κ), .int (nI j), .int (nI i)] [] S Q := by
  intro k
  induction k with
  | zero =>
    intro i S h1 h2 h3
    obtain rfl : i = j := by omega
    refine x_iload_n dX11_doMakes_75 rfl ?_
    refine x_iload_n dX11_doMakes_76 rfl ?_
    refine x_icmp_geN 107 dX11_doMakes_77 rfl (by omega) (by omega) (fun c77 => ?_) (fun c77 => ?_)
    · exact hq S h2 h3
    · exact absurd c77 (by omega)
  | succ k ih =>
    intro i S h1 h2 h3
    have hpi := Pre.mI (κ := κ) hp hj i (by omega)
    have hp2 := hpi.mk (i := i) (j := j) (x := 1) (y := -1) (by omega) hj (by omega) (by omega)
    refine x_iload_n dX11_doMakes_75 rfl ?_
    refine x_iload_n dX11_doMakes_76 rfl ?_
    refine x_icmp_geN 107 dX11_doMakes_77 rfl (by omega) (by omega) (fun c77 => ?_) (fun c77 => ?_)
    · exact absurd c77 (by omega)
    · refine x_aload_n dX11_doMakes_80 rfl ?_
      refine x_iload_n dX11_doMakes_81 rfl ?_
      refine x_ic _ ic_1 dX11_doMakes_82 ?_
      refine x_iload_n dX11_doMakes_83 rfl ?_
      refine x_ic _ ic_m1 dX11_doMakes_84 ?_
      refine x_v4 (N := mX11_makesOne) dX11_doMakes_85 ml_X11_154 nv_X11_makesOne rfl rfl (k_makesOne S (mkI κ j p i) hpi.2.1 i j (by omega) (by omega) 1 (-1) (nI 1) (i32 (-1)) rfl rfl h3) ?_
      rintro _ S' ⟨rfl, ho, hr⟩
      refine x_iload_n dX11_doMakes_88 rfl ?_
      refine x_ic _ ic_1 dX11_doMakes_89 ?_
      refine x_icmp_leN 101 dX11_doMakes_90 rfl (by omega) (by omega) (fun c90 => ?_) (fun c90 => ?_)
      · refine x_iincN dX11_doMakes_101 rfl rfl ?_
        refine x_goto 75 dX11_doMakes_104 rfl ?_
        refine ih (i + 1) S' (by omega) (h2.tr ho) ?_
        rw [mkI, if_neg (by omega)]
        exact hr
      · refine x_aload_n dX11_doMakes_93 rfl ?_
        refine x_iload_n dX11_doMakes_94 rfl ?_
        refine x_ic _ ic_1 dX11_doMakes_95 ?_
        refine x_iload_n dX11_doMakes_96 rfl ?_
        refine x_ic _ ic_1 dX11_doMakes_97 ?_
        refine x_v4 (N := mX11_makesOne) dX11_doMakes_98 ml_X11_154 nv_X11_makesOne rfl rfl (k_makesOne S' (mk1 (mkI κ j p i) i 1 j (-1)) hp2.2.1 i j (by omega) (by omega) 1 1 (nI 1) (nI 1) rfl rfl hr) ?_
        rintro _ S'' ⟨rfl, ho2, hr2⟩
        refine x_iincN dX11_doMakes_101 rfl rfl ?_
        refine x_goto 75 dX11_doMakes_104 rfl ?_
        refine ih (i + 1) S'' (by omega) ((h2.tr ho).tr ho2) ?_
        rw [mkI, if_pos (by omega)]
        exact hr2
set_option maxRecDepth 100000 in
set_option maxHeartbeats 4000000 in
theorem k_mk_3 (S0 : amS) (d : Nat) (hd : 2 ≤ d ∧ d ≤ 4) (κ : Nat) (hκ : κ < 4) (Q : Option Value → amS → Prop) (hκ0 : 0 < κ) (p : Ar) (hp : Pre d p) (hq : ∀ S, On S0 S → nRow (S.2.1 1) (mkB κ p (d - 1)) → Q (some (.int (nI (mkB κ p (d - 1)).2.1))) S) : ∀ (k n : Nat) (S : amS) (z : Value), n + 1 + k = d → On S0 S → nRow (S.2.1 1) (mkB κ p n) → X shM mX11_doMakes 58 [.ref 0, .int (nI κ), .int (nI (n + 1)), z] [] S Q := by
  intro k
  induction k with
  | zero =>
    intro n S z h1 h2 h3
    obtain rfl : n = d - 1 := by omega
    have e6 : S.2.1 1 36 = nI d := h3.1.trans (by rw [(Pre.mB (κ := κ) hp (d - 1) (by omega)).1])
    refine x_iload_n dX11_doMakes_58 rfl ?_
    refine x_aload_n dX11_doMakes_59 rfl ?_
    refine x_getR dX11_doMakes_60 fl_X11_7 rfl ?_
    refine x_bi _ bi_36 dX11_doMakes_63 ?_
    refine x_ialdN dX11_doMakes_65 rfl rfl (by omega) (e6) ?_
    refine x_icmp_geN 113 dX11_doMakes_66 rfl (by omega) (by omega) (fun c66 => ?_) (fun c66 => ?_)
    · refine x_aload_n dX11_doMakes_113 rfl ?_
      refine x_getR dX11_doMakes_114 fl_X11_7 rfl ?_
      refine x_bi _ bi_37 dX11_doMakes_117 ?_
      refine x_ialdN dX11_doMakes_119 rfl rfl (by omega) (h3.2.1) ?_
      refine x_iretI dX11_doMakes_120 rfl ?_
      exact hq S h2 h3
    · exact absurd c66 (by omega)
  | succ k ih =>
    intro n S z h1 h2 h3
    have e6 : S.2.1 1 36 = nI d := h3.1.trans (by rw [(Pre.mB (κ := κ) hp n (by omega)).1])
    refine x_iload_n dX11_doMakes_58 rfl ?_
    refine x_aload_n dX11_doMakes_59 rfl ?_
    refine x_getR dX11_doMakes_60 fl_X11_7 rfl ?_
    refine x_bi _ bi_36 dX11_doMakes_63 ?_
    refine x_ialdN dX11_doMakes_65 rfl rfl (by omega) (e6) ?_
    refine x_icmp_geN 113 dX11_doMakes_66 rfl (by omega) (by omega) (fun c66 => ?_) (fun c66 => ?_)
    · exact absurd c66 (by omega)
    · refine x_iload_n dX11_doMakes_69 rfl ?_
      refine x_topI ?_
      refine x_if_leI 113 dX11_doMakes_70 rfl (by omega) (fun c70 => ?_) (fun c70 => ?_)
      · omega
      · refine x_ic _ ic_0 dX11_doMakes_73 ?_
        refine x_istore_n dX11_doMakes_74 rfl ?_
        refine k_mk_2 S0 d hd κ hκ Q hκ0 (n + 1) (by omega) (mkB κ p n) (Pre.mB hp n (by omega)) (fun S' i1 i2 => ?_) (n + 1) 0 S (by omega) h2 h3
        refine x_iincN dX11_doMakes_107 rfl rfl ?_
        refine x_goto 58 dX11_doMakes_110 rfl ?_
        exact ih (n + 1) S' _ (by omega) i1 i2
set_option maxRecDepth 100000 in
set_option maxHeartbeats 4000000 in
theorem k_mk_4 (S0 : amS) (d : Nat) (hd : 2 ≤ d ∧ d ≤ 4) (κ : Nat) (hκ : κ < 4) (S : amS) (z : Nat) (hS : On S0 S) (hm : nRow (S.2.1 1) (aMk0 d κ)) : X shM mX11_doMakes 56 [.ref 0, .int (nI κ), .int (nI z), .null] [] S (fun r S' => r = some (.int (nI (aMakes d κ).2.1)) ∧ On S0 S' ∧ nRow (S'.2.1 1) (aMakes d κ)) := by
  have e6 : S.2.1 1 36 = nI d := hm.1.trans (by rw [(Pre.m0 d κ).1])
  by_cases h0 : 0 < κ
  · have e : aMakes d κ = mkB κ (aMk0 d κ) (d - 1) := by unfold aMakes; rw [if_pos h0]
    rw [e]
    refine x_ic _ ic_1 dX11_doMakes_56 ?_
    refine x_istore_n dX11_doMakes_57 rfl ?_
    exact k_mk_3 S0 d hd κ hκ _ h0 (aMk0 d κ) (Pre.m0 d κ) (fun S' i1 i2 => ⟨rfl, i1, i2⟩) (d - 1) 0 S _ (by omega) hS hm
  · have e : aMakes d κ = aMk0 d κ := by unfold aMakes; rw [if_neg h0]
    rw [e]
    refine x_ic _ ic_1 dX11_doMakes_56 ?_
    refine x_istore_n dX11_doMakes_57 rfl ?_
    refine x_iload_n dX11_doMakes_58 rfl ?_
    refine x_aload_n dX11_doMakes_59 rfl ?_
    refine x_getR dX11_doMakes_60 fl_X11_7 rfl ?_
    refine x_bi _ bi_36 dX11_doMakes_63 ?_
    refine x_ialdN dX11_doMakes_65 rfl rfl (by omega) (e6) ?_
    refine x_icmp_geN 113 dX11_doMakes_66 rfl (by omega) (by omega) (fun c66 => ?_) (fun c66 => ?_)
    · exact absurd c66 (by omega)
    · refine x_iload_n dX11_doMakes_69 rfl ?_
      refine x_topI ?_
      refine x_if_leI 113 dX11_doMakes_70 rfl (by omega) (fun c70 => ?_) (fun c70 => ?_)
      · refine x_aload_n dX11_doMakes_113 rfl ?_
        refine x_getR dX11_doMakes_114 fl_X11_7 rfl ?_
        refine x_bi _ bi_37 dX11_doMakes_117 ?_
        refine x_ialdN dX11_doMakes_119 rfl rfl (by omega) (hm.2.1) ?_
        refine x_iretI dX11_doMakes_120 rfl ?_
        exact ⟨rfl, hS, hm⟩
      · omega
set_option maxRecDepth 100000 in
set_option maxHeartbeats 4000000 in
theorem k_doMakes_ok (S : amS) (a : Ar) (hA : Arr a.1 a.2.1 a.2.2) (hm : nRow (S.2.1 1) a) (κ : Nat) (hκ : κ < 4) : X shM mX11_doMakes 0 [.ref 0, .int (nI κ), .null, .null] [] S (fun r S' => r = some (.int (nI (aMakes a.1 κ).2.1)) ∧ On S S' ∧ nRow (S'.2.1 1) (aMakes a.1 κ)) := by
  obtain ⟨a1, a2, a3, a4, a5, a6, a7⟩ := id hA
  refine x_iload_n dX11_doMakes_0 rfl ?_
  refine x_ic _ ic_0 dX11_doMakes_1 ?_
  refine x_ic _ ic_3 dX11_doMakes_2 ?_
  refine x_s3d (N := mX11_in) dX11_doMakes_3 ml_X11_113 ns_X11_in rfl (k_in S _ _ _) ?_
  refine x_if_neB 12 dX11_doMakes_6 rfl (fun c6 => ?_) (fun c6 => ?_)
  · refine x_aload_n dX11_doMakes_12 rfl ?_
    refine x_getR dX11_doMakes_13 fl_X11_7 rfl ?_
    refine x_bi _ bi_37 dX11_doMakes_16 ?_
    refine x_ic _ ic_0 dX11_doMakes_18 ?_
    refine x_iastN dX11_doMakes_19 rfl rfl (by omega) ?_
    refine x_ic _ ic_0 dX11_doMakes_20 ?_
    refine x_istore_n dX11_doMakes_21 rfl ?_
    have hS : On S (sA S 1 (upd (S.2.1 1) 37 (nI 0))) := (On.rf S).sA _ (Or.inl rfl)
    have hm0 : nRow ((sA S 1 (upd (S.2.1 1) 37 (nI 0))).2.1 1) (aSpace a.1) := ⟨hm.1, rfl, fun i j hi => absurd hi (Nat.not_lt_zero i)⟩
    by_cases h03 : κ = 0 ∨ κ = 3
    · exact k_mk_1 S a.1 ⟨a1, a2⟩ κ hκ _ h03 (fun S' i1 i2 => k_mk_4 S a.1 ⟨a1, a2⟩ κ hκ S' a.1 i1 (by unfold aMk0; rw [if_pos h03]; exact i2)) a.1 0 _ (by omega) hS hm0
    · refine x_iload_n dX11_doMakes_22 rfl ?_
      refine x_aload_n dX11_doMakes_23 rfl ?_
      refine x_getR dX11_doMakes_24 fl_X11_7 rfl ?_
      refine x_bi _ bi_36 dX11_doMakes_27 ?_
      refine x_ialdN dX11_doMakes_29 rfl rfl (by omega) (show _ = nI a.1 from hm0.1) ?_
      refine x_icmp_geN 56 dX11_doMakes_30 rfl (by omega) (by omega) (fun c30 => ?_) (fun c30 => ?_)
      · exact absurd c30 (by omega)
      · refine x_iload_n dX11_doMakes_33 rfl ?_
        refine x_if_eqN 42 dX11_doMakes_34 rfl (by omega) (fun c34 => ?_) (fun c34 => ?_)
        · exact absurd (Or.inl c34) h03
        · refine x_iload_n dX11_doMakes_37 rfl ?_
          refine x_ic _ ic_3 dX11_doMakes_38 ?_
          refine x_icmp_neN 56 dX11_doMakes_39 rfl (by omega) (by omega) (fun c39 => ?_) (fun c39 => ?_)
          · exact k_mk_4 S a.1 ⟨a1, a2⟩ κ hκ _ 0 hS (by unfold aMk0; rw [if_neg h03]; exact hm0)
          · exact absurd (Or.inr c39) h03
  · rw [Bool.eq_false_iff, ne_eq, in_R _ (by omega)] at c6
    exact absurd (InR_in hκ) c6
set_option maxRecDepth 100000 in
set_option maxHeartbeats 4000000 in
theorem k_doMakes_bad (S : amS) (a : Ar) (hA : Arr a.1 a.2.1 a.2.2) (hm : nRow (S.2.1 1) a) (x : Int32) (hx : ¬ InR x 4) : X shM mX11_doMakes 0 [.ref 0, .int x, .null, .null] [] S (fun r S' => r = some (.int (i32 (-2))) ∧ On S S' ∧ nRow (S'.2.1 1) a) := by
  obtain ⟨a1, a2, a3, a4, a5, a6, a7⟩ := id hA
  refine x_iload_n dX11_doMakes_0 rfl ?_
  refine x_ic _ ic_0 dX11_doMakes_1 ?_
  refine x_ic _ ic_3 dX11_doMakes_2 ?_
  refine x_s3d (N := mX11_in) dX11_doMakes_3 ml_X11_113 ns_X11_in rfl (k_in S _ _ _) ?_
  refine x_if_neB 12 dX11_doMakes_6 rfl (fun c6 => ?_) (fun c6 => ?_)
  · rw [in_R _ (by omega)] at c6
    exact absurd c6 hx
  · refine x_bi _ bi_m2 dX11_doMakes_9 ?_
    refine x_iretI dX11_doMakes_11 rfl ?_
    exact ⟨rfl, On.rf S, hm⟩
