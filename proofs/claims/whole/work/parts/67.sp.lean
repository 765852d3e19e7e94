/-! ANTICHAINS of the sets of nine: at most 126 -/
def chs : List (List Nat) := [[0, 1, 3, 7, 15, 31, 63, 127, 255, 511], [2, 6, 14, 30, 62, 126, 254, 510], [4, 5, 13, 29, 61, 125, 253, 509], [8, 9, 11, 27, 59, 123, 251, 507], [10, 26, 58, 122, 250, 506], [12, 28, 60, 124, 252, 508], [16, 17, 19, 23, 55, 119, 247, 503], [18, 22, 54, 118, 246, 502], [20, 21, 53, 117, 245, 501], [24, 25, 57, 121, 249, 505], [32, 33, 35, 39, 47, 111, 239, 495], [34, 38, 46, 110, 238, 494], [36, 37, 45, 109, 237, 493], [40, 41, 43, 107, 235, 491], [42, 106, 234, 490], [44, 108, 236, 492], [48, 49, 51, 115, 243, 499], [50, 114, 242, 498], [52, 116, 244, 500], [56, 120, 248, 504], [64, 65, 67, 71, 79, 95, 223, 479], [66, 70, 78, 94, 222, 478], [68, 69, 77, 93, 221, 477], [72, 73, 75, 91, 219, 475], [74, 90, 218, 474], [76, 92, 220, 476], [80, 81, 83, 87, 215, 471], [82, 86, 214, 470], [84, 85, 213, 469], [88, 89, 217, 473], [96, 97, 99, 103, 231, 487], [98, 102, 230, 486], [100, 101, 229, 485], [104, 105, 233, 489], [112, 113, 241, 497], [128, 129, 131, 135, 143, 159, 191, 447], [130, 134, 142, 158, 190, 446], [132, 133, 141, 157, 189, 445], [136, 137, 139, 155, 187, 443], [138, 154, 186, 442], [140, 156, 188, 444], [144, 145, 147, 151, 183, 439], [146, 150, 182, 438], [148, 149, 181, 437], [152, 153, 185, 441], [160, 161, 163, 167, 175, 431], [162, 166, 174, 430], [164, 165, 173, 429], [168, 169, 171, 427], [170, 426], [172, 428], [176, 177, 179, 435], [178, 434], [180, 436], [184, 440], [192, 193, 195, 199, 207, 463], [194, 198, 206, 462], [196, 197, 205, 461], [200, 201, 203, 459], [202, 458], [204, 460], [208, 209, 211, 467], [210, 466], [212, 468], [216, 472], [224, 225, 227, 483], [226, 482], [228, 484], [232, 488], [240, 496], [256, 257, 259, 263, 271, 287, 319, 383], [258, 262, 270, 286, 318, 382], [260, 261, 269, 285, 317, 381], [264, 265, 267, 283, 315, 379], [266, 282, 314, 378], [268, 284, 316, 380], [272, 273, 275, 279, 311, 375], [274, 278, 310, 374], [276, 277, 309, 373], [280, 281, 313, 377], [288, 289, 291, 295, 303, 367], [290, 294, 302, 366], [292, 293, 301, 365], [296, 297, 299, 363], [298, 362], [300, 364], [304, 305, 307, 371], [306, 370], [308, 372], [312, 376], [320, 321, 323, 327, 335, 351], [322, 326, 334, 350], [324, 325, 333, 349], [328, 329, 331, 347], [330, 346], [332, 348], [336, 337, 339, 343], [338, 342], [340, 341], [344, 345], [352, 353, 355, 359], [354, 358], [356, 357], [360, 361], [368, 369], [384, 385, 387, 391, 399, 415], [386, 390, 398, 414], [388, 389, 397, 413], [392, 393, 395, 411], [394, 410], [396, 412], [400, 401, 403, 407], [402, 406], [404, 405], [408, 409], [416, 417, 419, 423], [418, 422], [420, 421], [424, 425], [432, 433], [448, 449, 451, 455], [450, 454], [452, 453], [456, 457], [464, 465], [480, 481]]
def isCh (c : List Nat) : Bool := c.all (fun x => c.all (fun y => x &&& y == x || x &&& y == y))
theorem chs_ok : chs.all isCh = true := by decide +kernel
theorem chs_len : chs.length = 126 := by decide +kernel
theorem chs_cov : ∀ x, x < 512 → chs.any (fun c => c.contains x) = true := by decide +kernel
def AntiC (L : List Nat) : Prop := L.Nodup ∧ ∀ x ∈ L, ∀ y ∈ L, x &&& y = x → x = y
theorem AntiC.filter {L : List Nat} (h : AntiC L) (p : Nat → Bool) : AntiC (L.filter p) :=
  ⟨h.1.filter p, fun x hx y hy => h.2 x (List.mem_filter.mp hx).1 y (List.mem_filter.mp hy).1⟩
theorem AntiC.one {L c : List Nat} (h : AntiC L) (hc : isCh c = true) (hL : ∀ x ∈ L, x ∈ c) : L.length ≤ 1 := by
  match L, h, hL with
  | [], _, _ => simp
  | [a], _, _ => simp
  | a :: b :: l, h, hL =>
    exfalso
    have ha := hL a (by simp)
    have hb := hL b (by simp)
    have hne : a ≠ b := by
      have := h.1
      rw [List.nodup_cons] at this
      intro e
      apply this.1
      rw [e]
      simp
    unfold isCh at hc
    rw [List.all_eq_true] at hc
    have h1 := hc a ha
    rw [List.all_eq_true] at h1
    have h2 := h1 b hb
    rw [Bool.or_eq_true, beq_iff_eq, beq_iff_eq] at h2
    rcases h2 with z | z
    · exact hne (h.2 a (by simp) b (by simp) z)
    · exact hne (h.2 b (by simp) a (by simp) (by rw [Nat.and_comm]; exact z)).symm
theorem filter_split (p : Nat → Bool) (L : List Nat) : (L.filter p).length + (L.filter (fun x => !p x)).length = L.length := by
  induction L with
  | nil => rfl
  | cons a l ih =>
    simp only [List.filter_cons]
    cases p a <;> simp <;> omega
theorem AntiC.le : ∀ (C : List (List Nat)) (L : List Nat), AntiC L → C.all isCh = true → (∀ x ∈ L, C.any (fun c => c.contains x) = true) → L.length ≤ C.length := by
  intro C
  induction C with
  | nil =>
    intro L h _ hx
    cases L with
    | nil => simp
    | cons a l =>
      have := hx a (by simp)
      simp at this
  | cons c C ih =>
    intro L h hC hx
    rw [List.all_cons, Bool.and_eq_true] at hC
    have h1 := (h.filter (fun x => c.contains x)).one hC.1 (fun x hx => by
      have := (List.mem_filter.mp hx).2
      simpa using this)
    have h2 := ih (L.filter (fun x => !c.contains x)) (h.filter _) hC.2 (fun x hxx => by
      obtain ⟨g1, g2⟩ := List.mem_filter.mp hxx
      have := hx x g1
      rw [List.any_cons, Bool.or_eq_true] at this
      rcases this with z | z
      · rw [z] at g2; simp at g2
      · exact z)
    have h3 := filter_split (fun x => c.contains x) L
    rw [List.length_cons]
    omega
theorem anti126 {L : List Nat} (h : AntiC L) (hb : ∀ x ∈ L, x < 512) : L.length ≤ 126 := by
  rw [← chs_len]
  exact AntiC.le chs L h chs_ok (fun x hx => chs_cov x (hb x hx))
/-! subsets, ranks -/
theorem and_sub {x y : Nat} (h : x &&& y = x) (i : Nat) (hi : x.testBit i = true) : y.testBit i = true := by
  rw [← h, Nat.testBit_and, Bool.and_eq_true] at hi
  exact hi.2
theorem sub_and {x y : Nat} (h : ∀ i, x.testBit i = true → y.testBit i = true) : x &&& y = x := by
  apply Nat.eq_of_testBit_eq
  intro i
  rw [Nat.testBit_and]
  cases e : x.testBit i
  · rfl
  · rw [h i e]; rfl
theorem tb_lt {s N i : Nat} (h : s < 2 ^ N) (hi : s.testBit i = true) : i < N := by
  by_cases q : i < N
  · exact q
  · rw [tb_hi h (by omega)] at hi
    cases hi
theorem rkV_mono {v : Nat → Row} {x y : Nat} (h : ∀ i, i < 9 → x.testBit i = true → y.testBit i = true) : rkV v x ≤ rkV v y := rkS_mono h
theorem Dp.mono {js : List Nat} {N s t : Nat} {v : Nat → Row} {x : Nat → Int} (h : Dp js N s v x) (hst : ∀ i, s.testBit i = true → t.testBit i = true) : Dp js N t v x :=
  ⟨fun i hi => h.1 i (by
    cases e : s.testBit i
    · rfl
    · rw [hst i e] at hi; cases hi), h.2⟩
theorem dep_ex {v : Nat → Row} (hb : ∀ i j, -3 ≤ v i j ∧ v i j ≤ 3) {s : Nat} (hs : s < 512) (h : rkV v s < pc9 s) : ∃ x : Nat → Int, Dp (cf 4) 9 s v x ∧ ∃ m, m < 9 ∧ x m ≠ 0 := by
  obtain ⟨x, h1, h2, -⟩ := dep_bd (cf 4) 9 s v 3 (by omega) (by omega) (fun i _ j _ => hb i j) (fun i hi => tb_lt (N := 9) hs hi) (by rw [pcb_pc9 9 (by omega) s hs]; exact h)
  exact ⟨x, h1, h2⟩
/-- a set with a dependent subset is dependent -/
theorem dep_up {v : Nat → Row} (hb : ∀ i j, -3 ≤ v i j ∧ v i j ≤ 3) {s t : Nat} (ht : t < 512) (hst : ∀ i, s.testBit i = true → t.testBit i = true) (h : rkV v s < pc9 s) (hs : s < 512) : rkV v t < pc9 t := by
  obtain ⟨x, h1, m, hm, hx⟩ := dep_ex hb hs h
  have := (h1.mono hst).rank hm hx
  rw [pcb_pc9 9 (by omega) t ht] at this
  exact this
theorem dep_less {v : Nat → Row} (hb : ∀ i j, -3 ≤ v i j ∧ v i j ≤ 3) {s : Nat} (hs : s < 512) (h : rkV v s < pc9 s) : ∃ i, i < 9 ∧ s.testBit i = true ∧ rkV v (less s i) = rkV v s := by
  obtain ⟨x, h1, m, hm, hx⟩ := dep_ex hb hs h
  obtain ⟨g1, g2⟩ := h1.sp hm hx
  have g3 := (rkS_or (js := cf 4) (v := v) (N := 9) (s := less s m) (p := m) hm).1 g2
  rw [less_or g1] at g3
  exact ⟨m, hm, g1, g3.symm⟩
theorem pc9_less : ∀ s, s < 512 → ∀ i, i < 9 → s.testBit i = true → pc9 (less s i) + 1 = pc9 s := by
  intro s hs i hi h
  rw [← pcb_pc9 9 (by omega) s hs, ← pcb_pc9 9 (by omega) (less s i) (less_lt (N := 9) hs)]
  exact pcb_less hi h
theorem xor_less {s i : Nat} (h : s.testBit i = true) : s ^^^ 2 ^ i = less s i := by
  unfold less
  congr 1
  apply Nat.eq_of_testBit_eq
  intro j
  rw [Nat.testBit_and]
  by_cases e : i = j
  · subst e; rw [h]; simp
  · rw [Nat.testBit_two_pow_of_ne e]; simp
theorem less_lt_self {s i : Nat} (h : s.testBit i = true) : less s i < s := by
  have h1 : less s i ≤ s := xor_and_le s (2 ^ i)
  rcases Nat.lt_or_eq_of_le h1 with z | z
  · exact z
  · exfalso
    have := less_tb s i i
    rw [z, h] at this
    simp at this
/-! circuits: an antichain -/
theorem Circ.anti {v : Nat → Row} (hb : ∀ i j, -3 ≤ v i j ∧ v i j ≤ 3) {x y : Nat} (hx : x < 512) (hy : y < 512) (h1 : Circ v 9 x) (h2 : Circ v 9 y) (h : x &&& y = x) : x = y := by
  by_cases e : x = y
  · exact e
  · exfalso
    have : ∃ i, y.testBit i = true ∧ x.testBit i = false := by
      refine Classical.byContradiction (fun z => e ?_)
      apply Nat.eq_of_testBit_eq
      intro i
      cases e1 : x.testBit i with
      | true => rw [and_sub h i e1]
      | false =>
        cases e2 : y.testBit i with
        | false => rfl
        | true => exact absurd ⟨i, e2, e1⟩ z
    obtain ⟨i, i1, i2⟩ := this
    have hi := tb_lt (N := 9) hy i1
    have h3 := h2.2.2 i hi i1
    have hl : less y i < 512 := less_lt (N := 9) hy
    rw [pcb_pc9 9 (by omega) _ hl] at h3
    have h4 := h1.2.1
    rw [pcb_pc9 9 (by omega) _ hx] at h4
    have h5 := dep_up hb hl (s := x) (fun j hj => by
      rw [less_tb, and_sub h j hj]
      simp
      intro z
      subst z
      rw [i2] at hj
      cases hj) h4 hx
    have h6 : rkV v (less y i) = pc9 (less y i) := h3
    omega
theorem ringsB_mem {v : Nat → Row} {N : Nat} : ∀ {k c : Nat}, c ∈ ringsB v N k → c < 2 ^ N ∧ pc9 c ≤ k ∧ rgB (rkV v) c N = true := by
  intro k
  induction k with
  | zero => intro c h; simp [ringsB] at h
  | succ k ih =>
    intro c h
    rw [ringsB, List.mem_append] at h
    rcases h with h | h
    · obtain ⟨a1, a2, a3⟩ := ih h
      exact ⟨a1, by omega, a3⟩
    · unfold rnB at h
      rw [List.mem_filter, List.mem_range, Bool.and_eq_true, beq_iff_eq] at h
      exact ⟨h.1, by omega, h.2.2⟩
theorem ringsB_nodup (v : Nat → Row) (N : Nat) : ∀ k, (ringsB v N k).Nodup := by
  intro k
  induction k with
  | zero => simp [ringsB]
  | succ k ih =>
    rw [ringsB, List.nodup_append]
    refine ⟨ih, ?_, fun a ha b hb e => ?_⟩
    · unfold rnB
      exact List.nodup_range.filter _
    · subst e
      have h1 := (ringsB_mem ha).2.1
      unfold rnB at hb
      rw [List.mem_filter, Bool.and_eq_true, beq_iff_eq] at hb
      omega
theorem rings_anti {d N : Nat} {v : Nat → Row} (hA : Arr d N v) {L : List Nat} (hn : L.Nodup) (h : ∀ c ∈ L, c < 2 ^ N ∧ rgB (rkV v) c N = true) : L.length ≤ 126 := by
  have hp := pow9 hA.2.2.1
  refine anti126 ⟨hn, fun x hx y hy hxy => ?_⟩ (fun x hx => by have := (h x hx).1; omega)
  obtain ⟨x1, x2⟩ := h x hx
  obtain ⟨y1, y2⟩ := h y hy
  exact Circ.anti hA.2.2.2.1 (by omega) (by omega) ((ring_circ hA.2.2.1 x1).mp x2) ((ring_circ hA.2.2.1 y1).mp y2) hxy
theorem rings_pf {d N : Nat} {v : Nat → Row} (hA : Arr d N v) (k t : Nat) (ht : t ≤ 2 ^ N) : (ringsB v N k ++ pfB v N (k + 1) t).length ≤ 126 := by
  refine rings_anti hA ?_ (fun c hc => ?_)
  · rw [List.nodup_append]
    refine ⟨ringsB_nodup v N k, List.nodup_range.filter _, fun a ha b hb e => ?_⟩
    subst e
    have h1 := (ringsB_mem ha).2.1
    unfold pfB at hb
    rw [List.mem_filter, Bool.and_eq_true, beq_iff_eq] at hb
    omega
  · rw [List.mem_append] at hc
    rcases hc with hc | hc
    · have := ringsB_mem hc
      exact ⟨this.1, this.2.2⟩
    · unfold pfB at hc
      rw [List.mem_filter, List.mem_range, Bool.and_eq_true] at hc
      exact ⟨by omega, hc.2.2⟩
theorem rings_126 {d N : Nat} {v : Nat → Row} (hA : Arr d N v) (k : Nat) : (ringsB v N k).length ≤ 126 := rings_anti hA (ringsB_nodup v N k) (fun c hc => ⟨(ringsB_mem hc).1, (ringsB_mem hc).2.2⟩)
/-! ranks are at most d; no circuit has more than d + 1 -/
theorem rkC_jl {q : Int} : ∀ (js : List Nat) (l : List Row), rkC q js l ≤ js.length := by
  intro js
  induction js with
  | nil => intro l; exact Nat.le_refl _
  | cons j js ih =>
    intro l
    cases e : pv q j l with
    | none => rw [rkC_n e]; have := ih l; rw [List.length_cons]; omega
    | some x => rw [rkC_s e]; have := ih (l.map (el x j)); rw [List.length_cons]; omega
theorem cl_len (d : Nat) : ∀ k, (cl d k).length = k := by
  intro k
  induction k with
  | zero => rfl
  | succ k ih => rw [cl, List.length_cons, ih]
theorem rkV_cl {d N : Nat} {v : Nat → Row} (hA : Arr d N v) (s : Nat) : rkV v s = rkC 0 (cl d d) (rowsB v s 9) := by
  show rkC 0 (cf 4) (rowsB v s 9) = _
  exact rkC_cl hA.1 hA.2.1 (fun r hr j hj => by
    obtain ⟨a, -, -, rfl⟩ := rowsB_mem.mp hr
    exact hA.2.2.2.2.1 a j hj)
theorem rkV_d {d N : Nat} {v : Nat → Row} (hA : Arr d N v) (s : Nat) : rkV v s ≤ d := by
  rw [rkV_cl hA s]
  have := rkC_jl (q := 0) (cl d d) (rowsB v s 9)
  rw [cl_len] at this
  exact this
theorem rg_size {d N : Nat} {v : Nat → Row} (hA : Arr d N v) {c : Nat} (hc : c < 2 ^ N) (h : rgB (rkV v) c N = true) : pc9 c ≤ d + 1 ∧ 3 ≤ pc9 c := by
  have hp := pow9 hA.2.2.1
  obtain ⟨h1, h2⟩ := (rgB_iff N).mp h
  have h0 : 3 ≤ pc9 c := by
    by_cases q : pc9 c ≤ 2
    · have := hA.2.2.2.2.2.2 c hc q
      omega
    · omega
  refine ⟨?_, h0⟩
  obtain ⟨i, hi, hb⟩ := pcb_pos (s := c) (N := 9) (by rw [pcb_pc9 9 (by omega) c (by omega)]; omega)
  have hiN := tb_lt hc hb
  have h3 := h2 i hiN hb
  have h4 := pc9_less c (by omega) i hi hb
  have h5 := rkV_d hA (less c i)
  omega
theorem ringsB_stop {d N : Nat} {v : Nat → Row} (hA : Arr d N v) : ∀ k, d + 1 ≤ k → ringsB v N k = ringsB v N (d + 1) := by
  intro k
  induction k with
  | zero => intro h; omega
  | succ k ih =>
    intro h
    by_cases q : d + 1 = k + 1
    · rw [q]
    · rw [ringsB, ih (by omega)]
      have : rnB v N (k + 1) = [] := by
        unfold rnB
        rw [List.filter_eq_nil_iff]
        intro c hc z
        rw [List.mem_range] at hc
        rw [Bool.and_eq_true, beq_iff_eq] at z
        have := (rg_size hA hc z.2).1
        omega
      rw [this, List.append_nil]
