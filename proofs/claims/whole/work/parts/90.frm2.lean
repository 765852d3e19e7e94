/-! form: the two answers are the same -/
theorem ring_in {d N : Nat} {v : Nat → Row} (hA : Arr d N v) {c : Nat} (g1 : c < 2 ^ N) (g2 : rgB (rkV v) c N = true) : c ∈ ringsB v N 5 := by
  have hsz := rg_size hA g1 g2
  have hd := hA.2.1
  have key : ∀ k, pc9 c ≤ k → c ∈ ringsB v N k := by
    intro k
    induction k with
    | zero => intro z; omega
    | succ k ih =>
      intro z
      rw [ringsB, List.mem_append]
      by_cases e : pc9 c = k + 1
      · right
        unfold rnB
        rw [List.mem_filter, List.mem_range]
        exact ⟨g1, by rw [e, g2]; simp⟩
      · exact Or.inl (ih (by omega))
  exact key 5 (by omega)
theorem ar_one {d N : Nat} {v : Nat → Row} (hA : Arr d N v) : ∀ s, s < 2 ^ N → pcb s N = 1 → rkV v s = 1 := fun s hs h => by
  have hN := hA.2.2.1
  rw [pcb_pc9 N (by omega) s hs] at h
  rw [hA.2.2.2.2.2.2 s hs (by omega), h]
theorem bd_f {d N : Nat} {v : Nat → Row} (hA : Arr d N v) {t : Nat} (ht : t < 2 ^ N) : bdB (rkV v) t = false ↔ rkV v t = pcb t N := by
  have hN := hA.2.2.1
  have := (mtr_V v hN).le ht
  rw [bdB, decide_eq_false_iff_not, pcb_pc9 N (by omega) t ht]
  rw [pcb_pc9 N (by omega) t ht] at this
  omega
theorem bd_t {d N : Nat} {v : Nat → Row} (hA : Arr d N v) {t : Nat} (ht : t < 2 ^ N) : bdB (rkV v) t = true ↔ rkV v t < pcb t N := by
  have hN := hA.2.2.1
  rw [bdB, decide_eq_true_eq, pcb_pc9 N (by omega) t ht]
/-- what a circuit of the list is -/
theorem ring_c {d N : Nat} {v : Nat → Row} (hA : Arr d N v) {c : Nat} (h : c ∈ ringsB v N 5) : c < 2 ^ N ∧ c ≠ 0 ∧ rkV v c < pcb c N := by
  have hN := hA.2.2.1
  have h1 := ring_lt hA h
  refine ⟨h1.1, h1.2.2, ?_⟩
  rw [pcb_pc9 N (by omega) c h1.1]
  exact ((rgB_iff N).mp (ringsB_mem h).2.2).1
/-- a set that is neither dependent nor with a broken circuit counts nothing, but b -/
theorem F_nb {d N : Nat} {v : Nat → Row} (hA : Arr d N v) {n b t : Nat} (hb : Nb (rkV v) N (ringsB v N 5) b) (hbn : pcb b N = n) (ht : t < 2 ^ N) (hne : t ≠ b) (hn : ∀ c ∈ ringsB v N 5, ¬ Sb (rst c) t) : Fn (rkV v) N n b t = 0 := by
  have hN := hA.2.2.1
  have hM := mtr_V v hN
  by_cases hi : rkV v t = pcb t N
  · by_cases hs : pcb t N = n
    · rw [Fn_nbc hM hN (fun c h1 h2 => ring_in hA h1 h2) n b t hb ⟨ht, hi, hn⟩ hbn hs, if_neg hne]
    · exact Fn_size hM (ar_one hA) hs
  · refine Fn_dep hM (ar_one hA) ht ?_
    have := hM.le ht
    omega
theorem stp_sum {d N : Nat} {v : Nat → Row} (hA : Arr d N v) {n b t : Nat} (hb : Nb (rkV v) N (ringsB v N 5) b) (hbn : pcb b N = n) (ht : t < 2 ^ N) (hbt : b < t) {Y : Nat → Nat} (hY : brOK (ringsB v N 5) t (Y t)) (g : Nat → Int32) : s32 (fun k => stp Y (rkV v) N g t k * i32 (Fn (rkV v) N n b k)) t = s32 (fun k => g k * i32 (Fn (rkV v) N n b k)) (t + 1) := by
  have hN := hA.2.2.1
  have hM := mtr_V v hN
  have h512 := pow9 hN
  have hz : ∀ x : Int32, Fn (rkV v) N n b t = 0 → x * i32 (Fn (rkV v) N n b t) = 0 := fun x h => by rw [h, show i32 0 = (0 : Int32) from rfl, Int32.mul_zero]
  unfold stp
  rw [s32]
  split
  · rename_i q
    obtain ⟨q1, q2, q3⟩ := q
    rcases hY with ⟨y1, _⟩ | ⟨y1, y2⟩
    · exact absurd y1 q2
    · obtain ⟨c1, c2, c3⟩ := ring_c hA y1
      have y3 : Sb (rst (Y t)) t := Sb_xor.mp y2
      have hti := (bd_f hA ht).mp q3
      obtain ⟨l1, l2, l3, l4⟩ := lwI_ok (Y t) (by omega) c2
      have hlt : t.testBit (lwI (Y t)) = false := by
        cases e : t.testBit (lwI (Y t))
        · rfl
        · exfalso
          have : Sb (Y t) t := fun i hi => by
            by_cases q : lwI (Y t) = i
            · rw [← q]; exact e
            · exact y3 i (by rw [l4, less_tb, hi, decide_eq_false q]; rfl)
          have := hM.sub_ind this ht hti
          omega
      have hmin : ∀ i, (rst (Y t)).testBit i = true → lwI (Y t) < i ∧ t.testBit i = true := fun i hi => by
        refine ⟨?_, y3 i hi⟩
        rw [l4, less_tb] at hi
        simp at hi
        have hiN := tb_lt c1 hi.1
        rcases Nat.lt_trichotomy i (lwI (Y t)) with q | q | q
        · rw [lwI_min (Y t) (by omega) c2 i (by omega) q] at hi; exact absurd hi.1 (by decide)
        · exact absurd q.symm hi.2
        · exact q
      rw [(rpG_sum (F := Fn (rkV v) N n b) (g := g) (show t < 512 by omega) hlt hmin N).2, Fn_rel hM (ar_one hA) hN ht c1 c2 hti c3 y3]
      congr 3
      refine sm_ext (fun i hi => ?_)
      by_cases e : (rst (Y t)).testBit i = true
      · rw [if_pos e, if_pos e]
        congr 1
        apply sgn_par
        have := pas_pc (lwI (Y t)) l3 i (by omega) (by have := (hmin i e).1; omega) t (by omega)
        omega
      · rw [if_neg e, if_neg e]
  · rename_i q
    have : g t * i32 (Fn (rkV v) N n b t) = 0 := by
      by_cases e1 : g t = nI 0
      · rw [e1]; exact Int32.zero_mul
      · cases e3 : bdB (rkV v) t
        · by_cases e2 : Y t = 0
          · rcases hY with ⟨_, y2⟩ | ⟨y1, _⟩
            · exact hz _ (F_nb hA hb hbn ht (by omega) (fun c hc z => y2 c hc (Sb_xor.mpr z)))
            · exact absurd e2 (ring_c hA y1).2.1
          · exact absurd ⟨e1, e2, e3⟩ q
        · exact hz _ (Fn_dep hM (ar_one hA) ht ((bd_t hA ht).mp e3))
    rw [this, Int32.add_zero]
theorem F_low {d N : Nat} {v : Nat → Row} (hA : Arr d N v) {n b : Nat} (hb : Nb (rkV v) N (ringsB v N 5) b) (hbn : pcb b N = n) : ∀ k, k < b → Fn (rkV v) N n b k = 0 := fun k hk => by
  have hN := hA.2.2.1
  have hM := mtr_V v hN
  apply Classical.byContradiction
  intro z
  have := Fn_lt hM hN (fun c h1 h2 => ring_in hA h1 h2) n b k hb hbn (by have := hb.1; omega) z
  omega
theorem F_top {d N : Nat} {v : Nat → Row} (hA : Arr d N v) {n b : Nat} (hb : Nb (rkV v) N (ringsB v N 5) b) (hbn : pcb b N = n) (g : Nat → Int32) : s32 (fun k => g k * i32 (Fn (rkV v) N n b k)) (b + 1) = g b := by
  have hN := hA.2.2.1
  have hM := mtr_V v hN
  rw [s32, s32_zero _ _ b (F_low hA hb hbn), Fn_nbc hM hN (fun c h1 h2 => ring_in hA h1 h2) n b b hb hb hbn hbn, if_pos rfl]
  show (0 : Int32) + g b * 1 = _
  rw [Int32.mul_one, Int32.zero_add]
theorem ptF_val {d N : Nat} {v : Nat → Row} (hA : Arr d N v) {n b : Nat} (hb : Nb (rkV v) N (ringsB v N 5) b) (hbn : pcb b N = n) {Y : Nat → Nat} (hY : ∀ t, t < 2 ^ N → brOK (ringsB v N 5) t (Y t)) : ∀ (e : Nat) (g : Nat → Int32), b + e < 2 ^ N → ptF Y (rkV v) N b e g b = s32 (fun k => g k * i32 (Fn (rkV v) N n b k)) (b + e + 1) := by
  intro e
  induction e with
  | zero => intro g _; exact (F_top hA hb hbn g).symm
  | succ e ih =>
    intro g h
    rw [ptF, ih _ (by omega)]
    exact stp_sum hA hb hbn (t := b + e + 1) (by omega) (by omega) (hY _ (by omega)) g
theorem brL_none {d N : Nat} {v : Nat → Row} (hA : Arr d N v) {t : Nat} (h : brL (ringsB v N 5) t = none) : ∀ c ∈ ringsB v N 5, ¬ Sb (rst c) t := by
  intro c hc z
  unfold brL at h
  rw [List.findIdx?_eq_none_iff] at h
  have := h c hc
  have z2 := Sb_xor.mpr z
  unfold rst at z2
  rw [z2] at this
  cases this
theorem brL_some {d N : Nat} {v : Nat → Row} (hA : Arr d N v) {t q : Nat} (h : brL (ringsB v N 5) t = some q) : (ringsB v N 5).getD q 0 ∈ ringsB v N 5 ∧ Sb (rst ((ringsB v N 5).getD q 0)) t := by
  unfold brL at h
  rw [List.findIdx?_eq_some_iff_getElem] at h
  obtain ⟨hl, h1, _⟩ := h
  have e : (ringsB v N 5).getD q 0 = (ringsB v N 5)[q] := by rw [List.getD, List.getElem?_eq_getElem hl]; rfl
  rw [e]
  refine ⟨List.getElem_mem hl, Sb_xor.mp ?_⟩
  rw [beq_iff_eq] at h1
  exact h1
/-- what the reference does with one -/
theorem fmS_sum {d N : Nat} {v : Nat → Row} (hA : Arr d N v) {n b t : Nat} (hb : Nb (rkV v) N (ringsB v N 5) b) (hbn : pcb b N = n) (ht : t < 2 ^ N) (hbt : b < t) (g : Nat → Int32) : s32 (fun k => fmS (rkV v) (ringsB v N 5) g t k * i32 (Fn (rkV v) N n b k)) t = s32 (fun k => g k * i32 (Fn (rkV v) N n b k)) (t + 1) := by
  have hN := hA.2.2.1
  have hM := mtr_V v hN
  have h512 := pow9 hN
  have hz : ∀ x : Int32, Fn (rkV v) N n b t = 0 → x * i32 (Fn (rkV v) N n b t) = 0 := fun x h => by rw [h, show i32 0 = (0 : Int32) from rfl, Int32.mul_zero]
  unfold fmS
  rw [s32]
  split
  · rename_i q
    rw [q, Int32.zero_mul, Int32.add_zero]
  · split
    · rename_i q
      rw [s32_hi _ _ _ _ _ (Nat.le_refl _), hz _ (Fn_dep hM (ar_one hA) ht ((bd_t hA ht).mp q)), Int32.add_zero]
    · rename_i q
      have q3 : bdB (rkV v) t = false := by simpa using q
      cases w : brL (ringsB v N 5) t
      · rw [hz _ (F_nb hA hb hbn ht (by omega) (brL_none hA w)), Int32.add_zero]
      · rename_i j
        obtain ⟨y1, y3⟩ := brL_some hA w
        show s32 (fun k => spR g t ((ringsB v N 5).getD j 0) k * _) t = _
        generalize (ringsB v N 5).getD j 0 = c at y1 y3 ⊢
        obtain ⟨c1, c2, c3⟩ := ring_c hA y1
        have hti := (bd_f hA ht).mp q3
        obtain ⟨l1, l2, l3, l4⟩ := lwI_ok c (by omega) c2
        have hmin : ∀ i, (rst c).testBit i = true → lwI c < i := fun i hi => by
          rw [l4, less_tb] at hi
          simp at hi
          have hiN := tb_lt c1 hi.1
          rcases Nat.lt_trichotomy i (lwI c) with q | q | q
          · rw [lwI_min c (by omega) c2 i (by omega) q] at hi; exact absurd hi.1 (by decide)
          · exact absurd q.symm hi.2
          · exact q
        have hot : ∀ m, (t ^^^ (t &&& rst c)).testBit m = (t.testBit m && !(rst c).testBit m) := fun m => by
          rw [Nat.testBit_xor, Nat.testBit_and]
          cases t.testBit m <;> cases (rst c).testBit m <;> rfl
        have hot9 : t ^^^ (t &&& rst c) < 512 := Nat.lt_of_le_of_lt (xor_and_le t (rst c)) (by omega)
        have hwc : ∀ m, c.testBit m = ((rst c).testBit m || decide (lwI c = m)) := fun m => by
          rw [l4, less_tb]
          by_cases e : lwI c = m
          · rw [← e, l2]; simp
          · simp [e]
        have hwl : (rst c).testBit (lwI c) = false := by rw [l4, less_tb]; simp
        have htg : ∀ i, (rst c).testBit i = true → less c i ||| (t ^^^ (t &&& rst c)) = (t ^^^ 2 ^ i) ||| 2 ^ lwI c := fun i hi => by
          rw [xor_less (y3 i hi)]
          apply Nat.eq_of_testBit_eq
          intro m
          rw [Nat.testBit_or, less_tb, hwc, hot, tb_or, less_tb]
          by_cases e1 : lwI c = m
          · subst e1
            have : i ≠ lwI c := fun z => by rw [z, hwl] at hi; exact absurd hi (by decide)
            simp [this]
          · by_cases e2 : i = m
            · subst e2; rw [hi]; simp [e1]
            · cases e3 : (rst c).testBit m
              · simp [e1, e2]
              · rw [y3 m e3]; simp [e1, e2]
        show s32 (fun k => spR g t c k * _) t = _
        unfold spR
        rw [show c &&& (c - 1) = rst c from rfl]
        rw [spG_sum (F := Fn (rkV v) N n b) (fun i hi9 hi => by rw [htg i hi]; exact tgt_lt (by omega) (y3 i hi) (hmin i hi)) 9 (Nat.le_refl _), s32_hi _ _ _ _ _ (Nat.le_refl _), Fn_rel hM (ar_one hA) hN ht c1 c2 hti c3 y3]
        congr 3
        rw [sm_hi _ hN (fun i hi => by rw [if_neg]; intro z; have := tb_lt c1 (rst_sb (by omega) i z); omega)]
        refine sm_ext (fun i hi => ?_)
        by_cases e : (rst c).testBit i = true
        · rw [if_pos e, if_pos e, htg i e, tu_sign (j := t) (l := lwI c) hot9 hwc hwl e (by omega) l3 hmin (fun m => by
            rw [hot]
            cases e3 : (rst c).testBit m
            · simp
            · rw [y3 m e3]; rfl) (fun m hm => by rw [hot, hm]; simp)]
        · rw [if_neg e, if_neg e]
theorem spG_keep {d N : Nat} {v : Nat → Row} (hA : Arr d N v) {g0 : Nat → Int32} {y : Int32} {its wh ot k : Nat} (ht : ∀ i, i < 9 → wh.testBit i = true → less its i ||| ot < k) : ∀ n, n ≤ 9 → ∀ m, k ≤ m → spG g0 y its wh ot n m = g0 m := by
  intro n
  induction n with
  | zero => intro _ m _; rfl
  | succ n ih =>
    intro hn m hm
    rw [spG]
    cases e : wh.testBit n
    · rw [if_neg (by decide)]; exact ih (by omega) m hm
    · have := ht n (by omega) e
      rw [if_pos rfl, upd_n _ _ (by omega)]; exact ih (by omega) m hm
theorem fmS_keep {d N : Nat} {v : Nat → Row} (hA : Arr d N v) {t b : Nat} (hbt : t < b) (hb : b < 2 ^ N) (g : Nat → Int32) : fmS (rkV v) (ringsB v N 5) g t b = g b := by
  have hN := hA.2.2.1
  have h512 := pow9 hN
  unfold fmS
  split
  · rfl
  · split
    · rw [upd_n _ _ (by omega)]
    · cases w : brL (ringsB v N 5) t
      · rfl
      · rename_i j
        obtain ⟨y1, y3⟩ := brL_some hA w
        show spR g t ((ringsB v N 5).getD j 0) b = g b
        generalize (ringsB v N 5).getD j 0 = c at y1 y3 ⊢
        obtain ⟨c1, c2, c3⟩ := ring_c hA y1
        obtain ⟨l1, l2, l3, l4⟩ := lwI_ok c (by omega) c2
        unfold spR
        rw [show c &&& (c - 1) = rst c from rfl]
        rw [spG_keep hA (k := t) (fun i hi9 hi => ?_) 9 (Nat.le_refl _) b (by omega), upd_n _ _ (by omega)]
        have hli : lwI c < i := by
          have hi2 := hi
          rw [l4, less_tb] at hi2
          simp at hi2
          rcases Nat.lt_trichotomy i (lwI c) with q | q | q
          · rw [lwI_min c (by omega) c2 i (by omega) q] at hi2; exact absurd hi2.1 (by decide)
          · exact absurd q.symm hi2.2
          · exact q
        refine Nat.lt_of_le_of_lt ?_ (tgt_lt (by omega) (y3 i hi) hli)
        refine Sb.le (fun m hm => ?_)
        rw [Nat.testBit_or, less_tb, Nat.testBit_xor, Nat.testBit_and] at hm
        rw [xor_less (y3 i hi), tb_or, less_tb]
        by_cases e1 : lwI c = m
        · simp [e1]
        · have hcm : c.testBit m = (rst c).testBit m := by rw [l4, less_tb]; simp [e1]
          rw [hcm] at hm
          by_cases e2 : i = m
          · subst e2; rw [hi, y3 i hi] at hm; simp at hm
          · cases e3 : (rst c).testBit m
            · rw [e3] at hm; simp at hm; simp [hm, e2]
            · rw [y3 m e3]; simp [e2]
theorem fmR_keep {d N : Nat} {v : Nat → Row} (hA : Arr d N v) {b : Nat} (hb : b < 2 ^ N) : ∀ (j : Nat), j ≤ b → ∀ g, fmR (rkV v) (ringsB v N 5) j g b = g b := by
  intro j
  induction j with
  | zero => intro _ g; rfl
  | succ j ih => intro h g; rw [fmR, ih (by omega), fmS_keep hA (by omega) hb]
theorem fmR_val {d N : Nat} {v : Nat → Row} (hA : Arr d N v) {n b : Nat} (hb : Nb (rkV v) N (ringsB v N 5) b) (hbn : pcb b N = n) : ∀ (e : Nat) (g : Nat → Int32), b + e < 2 ^ N → fmR (rkV v) (ringsB v N 5) (b + e + 1) g b = s32 (fun k => g k * i32 (Fn (rkV v) N n b k)) (b + e + 1) := by
  intro e
  induction e with
  | zero =>
    intro g _
    rw [F_top hA hb hbn, Nat.add_zero, fmR, fmR_keep hA hb.1 b (Nat.le_refl _)]
    unfold fmS
    split
    · rfl
    · have hbd : bdB (rkV v) b = false := (bd_f hA hb.1).mpr hb.2.1
      rw [if_neg (by rw [hbd]; decide)]
      cases w : brL (ringsB v N 5) b
      · rfl
      · obtain ⟨y1, y3⟩ := brL_some hA w
        exact absurd y3 (hb.2.2 _ y1)
  | succ e ih =>
    intro g h
    rw [show b + (e + 1) + 1 = (b + e + 1) + 1 by omega, fmR, ih _ (by omega)]
    exact fmS_sum hA hb hbn (t := b + e + 1) (by omega) (by omega) g
theorem s32_none {d N : Nat} {v : Nat → Row} (hA : Arr d N v) (g : Nat → Int32) (F : Nat → Int) : ∀ t, (∀ k, k < t → g k = nI 0) → s32 (fun k => g k * i32 (F k)) t = nI 0 := by
  intro t
  induction t with
  | zero => intro _; rfl
  | succ t ih =>
    intro h
    rw [s32, ih (fun k hk => h k (by omega)), h t (by omega), show nI 0 = (0 : Int32) from rfl, Int32.zero_mul]
    rfl
theorem form_eq {d N : Nat} {v : Nat → Row} (hA : Arr d N v) {s b : Nat} (hs : s < 2 ^ N) (hb : b ∈ baL (rkV v) (ringsB v N 5) N (pc9 s)) {g g' : Nat → Int32} (hg : ∀ k, k < 512 → g k = if k = s then nI 1 else nI 0) (hg' : ∀ k, k < 512 → g' k = if k = s then nI 1 else nI 0) {Y : Nat → Nat} (hY : ∀ t, t < 2 ^ N → brOK (ringsB v N 5) t (Y t)) : fmR (rkV v) (ringsB v N 5) (s + 1) g b = if bdB (rkV v) s = true then nI 0 else ptF Y (rkV v) N b (s - b) g' b := by
  have hN := hA.2.2.1
  have hM := mtr_V v hN
  have h512 := pow9 hN
  unfold baL at hb
  rw [List.mem_filter, List.mem_range] at hb
  obtain ⟨b1, b2⟩ := hb
  rw [Bool.and_eq_true, beq_iff_eq, bsB, Bool.and_eq_true, Bool.not_eq_true', Option.isNone_iff_eq_none] at b2
  obtain ⟨b2, b3, b4⟩ := b2
  have hnb : Nb (rkV v) N (ringsB v N 5) b := ⟨b1, (bd_f hA b1).mp b3, brL_none hA b4⟩
  by_cases hlt : s < b
  · have gb : g b = nI 0 := by rw [hg b (by omega), if_neg (by omega)]
    have gb' : g' b = nI 0 := by rw [hg' b (by omega), if_neg (by omega)]
    rw [fmR_keep hA b1 (s + 1) (by omega), gb, show s - b = 0 by omega, ptF, gb']
    split <;> rfl
  · obtain ⟨e, rfl⟩ : ∃ e, s = b + e := ⟨s - b, by omega⟩
    have ee : ∀ t, t ≤ 512 → s32 (fun k => g k * i32 (Fn (rkV v) N (pcb b N) b k)) t = s32 (fun k => g' k * i32 (Fn (rkV v) N (pcb b N) b k)) t := by
      intro t
      induction t with
      | zero => intro _; rfl
      | succ t ih => intro h; rw [s32, s32, ih (by omega), hg t (by omega), hg' t (by omega)]
    rw [fmR_val hA hnb rfl e g hs]
    cases hd : bdB (rkV v) (b + e)
    · rw [if_neg (by decide), show b + e - b = e by omega, ptF_val hA hnb rfl hY e g' hs, ee _ (by omega)]
    · rw [if_pos rfl, s32, Fn_dep hM (ar_one hA) hs ((bd_t hA hs).mp hd), s32_none hA _ _ _ (fun k hk => by rw [hg k (by omega), if_neg (by omega)])]
      show (0 : Int32) + g (b + e) * 0 = 0
      rw [Int32.mul_zero, Int32.add_zero]
