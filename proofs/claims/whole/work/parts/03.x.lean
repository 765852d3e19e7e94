/-! THE JUDGEMENT X, and its rows, an instruction each -/
def am_isN : Cond → Bool
  | .fieldLinkNest .. => true
  | _ => false
/-- the words that stay true in calls -/
def am_kw (w : Cond) : Bool := (w.onTables && w.keeps) || am_isN w
def am_T (s : State) : Prop := ∀ w ∈ lw_tbl, am_kw w = true → va_Nw w s
theorem am_kw_on {w : Cond} (h : am_kw w = true) : w.onTables = true := by
  simp only [am_kw, Bool.or_eq_true, Bool.and_eq_true] at h
  rcases h with h | h
  · exact h.1
  · cases w <;> simp [am_isN] at h <;> rfl
theorem am_T.at {s : State} (h : am_T s) {w : Cond} (hw : w ∈ lw_tbl) (hk : am_kw w = true) (args : Array Value) : w.before args s = true := va_Nw.use (am_kw_on hk) (h w hw hk)
theorem am_T.same {s u : State} (h : am_T s) (e : s.vm = u.vm) : am_T u := fun w hw hk => va_Nw.same (am_kw_on hk) e (h w hw hk)
theorem am_T.warm {s U : State} (h : am_T s) (hW : s.WarmedH U.vm) : am_T U := by
  intro w hw hk
  have h0 := h w hw hk
  simp only [am_kw, Bool.or_eq_true] at hk
  rcases hk with hk | hk
  · exact word_at hW (Or.inl hk) h0
  · cases w with
    | fieldLinkNest a i b n d x => exact va_Nw.warmF hW h0
    | _ => simp [am_isN] at hk
theorem am_T.us {s : State} (h : am_T s) {C : String} {T : u_T} {N : Nat} (hin : ∀ w ∈ u_ws C T N, w ∈ lw_tbl) (args : Array Value) : ∀ w ∈ u_ws C T N, w.before args s = true := by
  intro w hw
  refine h.at (hin w hw) ?_ args
  obtain ⟨k, -, rfl⟩ := List.mem_map.mp hw
  unfold u_lay
  split <;> rfl
def am_C (h : List amSh) (M : amM) (p : Program) (R : Room) (s : State) (m : MethodId) (args : Array Value) (c : Code) (D : va_G) (ad : Nat → Nat) (ca : Nat → ClassId) : Prop :=
  p.tables.exec = Jvm.exec ∧ c.code = M.2.1 ∧ c.maxLocals = M.2.2.1 ∧ s.vm.findClass M.1.cls = some m.cls ∧ am_T s ∧ va_K D vwCl (am_tys h ca) s ∧ (∀ i j, i < h.length → j < h.length → ad i = ad j → i = j) ∧ M.2.2.2.2.1 ≤ R.frames ∧ M.2.2.2.2.2 ≤ R.locals
def am_L (ad : Nat → Nat) (nL : Nat) (loc : List Value) (ls : Array Slot) : Prop :=
  ls.size = nL ∧ lv_wf ls ∧ loc.length = nL ∧ ∀ (i : Nat) (v : Value), loc[i]? = some v → v ≠ .null → ls[i]? = some (.val (am_cv ad v))
/-- the end: the return instruction that fits -/
def am_R (M : amM) (v : Option Value) (pc : Nat) : Prop :=
  match v with
  | none => M.2.2.2.1 = none ∧ decode M.2.1 pc = .ok (.return_, 1)
  | some (.int x) => ∃ ty, M.2.2.2.1 = some ty ∧ narrow ty (.int x) = .int x ∧ decode M.2.1 pc = .ok (.ireturn, 1)
  | some (.long _) => M.2.2.2.1 = some .long ∧ decode M.2.1 pc = .ok (.lreturn, 1)
  | some (.ref _) => ∃ rt, M.2.2.2.1 = some rt ∧ ((∃ n, rt = .object n) ∨ ∃ t, rt = .array t) ∧ decode M.2.1 pc = .ok (.areturn, 1)
  | _ => False
def X (h : List amSh) (M : amM) (pc : Nat) (loc st : List Value) (S : amS) (Q : Option Value → amS → Prop) : Prop :=
  ∀ (p : Program) (l : Launch) (e : Env) (R : Room) (s : State) (m : MethodId) (args : Array Value) (below : List Frame) (meth : Method) (c : Code) (D : va_G) (ad : Nat → Nat) (ca : Nat → ClassId) (H0 H : Heap) (locs : List Loc) (ls : Array Slot) (QQ : State → Prop),
    am_C h M p R s m args c D ad ca → am_L ad M.2.2.1 loc ls → va_P D vwCl (am_world h ad ca S) H → va_S (am_A h ad) H0 H locs →
    (∀ (v : Option Value) (S' : amS) (H' : Heap) (locs' : List Loc) (pc' : Nat) (ls' : Array Slot), Q v S' → am_R M v pc' → va_P D vwCl (am_world h ad ca S') H' → va_S (am_A h ad) H0 H' locs' → W p l e R s m args below meth c H' locs' 0 0 QQ (F0 m pc' ls' (v.toList.map (am_cv ad)))) →
    W p l e R s m args below meth c H locs 0 0 QQ (F0 m pc ls (st.map (am_cv ad)))
theorem am_L_at {ad : Nat → Nat} {nL : Nat} {loc : List Value} {ls : Array Slot} (h : am_L ad nL loc ls) {i : Nat} {v : Value} (e : am_ld loc i = v) (hv : v ≠ .null) : ls[i]? = some (.val (am_cv ad v)) := h.2.2.2 i v (am_ld_some e hv) hv
def am_pairs (ad : Nat → Nat) (loc : List Value) : List (Nat × Value) := loc.zipIdx.filterMap (fun q => if q.1 = .null then none else some (q.2, am_cv ad q.1))
theorem am_pairs_mem {ad : Nat → Nat} {loc : List Value} {i : Nat} {v : Value} (e : loc[i]? = some v) (hv : v ≠ .null) : (i, am_cv ad v) ∈ am_pairs ad loc :=
  List.mem_filterMap.mpr ⟨(v, i), List.mem_zipIdx_iff_getElem?.mpr e, by simp [hv]⟩
theorem am_pairs_of {ad : Nat → Nat} {loc : List Value} {q : Nat × Value} (h : q ∈ am_pairs ad loc) : ∃ v, loc[q.1]? = some v ∧ v ≠ .null ∧ q.2 = am_cv ad v := by
  obtain ⟨⟨v, i⟩, h1, h2⟩ := List.mem_filterMap.mp h
  by_cases hv : v = .null
  · simp [hv] at h2
  · simp only [hv, if_false] at h2
    cases h2
    exact ⟨v, List.mem_zipIdx_iff_getElem?.mp h1, hv, rfl⟩
theorem am_L_has {ad : Nat → Nat} {nL : Nat} {loc : List Value} {ls : Array Slot} (h : am_L ad nL loc ls) : lv_has ls nL (am_pairs ad loc) := by
  refine ⟨h.1, h.2.1, fun q hq => ?_⟩
  obtain ⟨v, h1, h2, h3⟩ := am_pairs_of hq
  rw [h3]
  exact h.2.2.2 q.1 v h1 h2
theorem am_bF {j i : Nat} (h : ¬ j = i) : Nat.beq j i = false := by
  cases e : Nat.beq j i with
  | false => rfl
  | true => exact absurd (Nat.eq_of_beq_eq_true e) h
theorem am_bT {j i : Nat} (h : j = i) : Nat.beq j i = true := by subst h; exact Nat.beq_refl j
theorem am_cv_cat (ad : Nat → Nat) (v : Value) : (am_cv ad v).category = v.category := by cases v <;> rfl
theorem am_keep1 {ad : Nat → Nat} {i j : Nat} {w : Value} (hji : ¬ j = i) (hz : (Nat.beq (j + 1) i && Nat.beq w.category 2) = false) : (!((j, am_cv ad w).1 == i) && !((j, am_cv ad w).1 + 1 == i && (j, am_cv ad w).2.category == 2)) = true := by
  have a1 : (j == i) = false := by simpa using hji
  have a2 : ((j + 1 == i) && ((am_cv ad w).category == 2)) = false := by
    rw [am_cv_cat]
    have q : ∀ a b : Nat, (a == b) = Nat.beq a b := fun a b => by
      by_cases z : a = b
      · rw [am_bT z]; simpa using z
      · rw [am_bF z]; simpa using z
    rw [q, q]
    exact hz
  show (!(j == i) && !((j + 1 == i) && ((am_cv ad w).category == 2))) = true
  rw [a1, a2]
  rfl
theorem am_keep2 {ad : Nat → Nat} {i j : Nat} {w : Value} (hji : ¬ j = i) (hj1 : ¬ j = i + 1) (hz : (Nat.beq (j + 1) i && Nat.beq w.category 2) = false) : (!((j, am_cv ad w).1 == i) && (!((j, am_cv ad w).1 == i + 1) && !((j, am_cv ad w).1 + 1 == i && (j, am_cv ad w).2.category == 2))) = true := by
  have a1 : (j == i) = false := by simpa using hji
  have a3 : (j == i + 1) = false := by simpa using hj1
  have a2 : ((j + 1 == i) && ((am_cv ad w).category == 2)) = false := by
    rw [am_cv_cat]
    have q : ∀ a b : Nat, (a == b) = Nat.beq a b := fun a b => by
      by_cases z : a = b
      · rw [am_bT z]; simpa using z
      · rw [am_bF z]; simpa using z
    rw [q, q]
    exact hz
  show (!(j == i) && (!(j == i + 1) && !((j + 1 == i) && ((am_cv ad w).category == 2)))) = true
  rw [a1, a2, a3]
  rfl
/-- behind a store of one place -/
theorem am_L_st1 {ad : Nat → Nat} {nL : Nat} {loc : List Value} {ls ls' : Array Slot} {i : Nat} {v : Value} (h : am_L ad nL loc ls) (hc : v.category = 1) (h' : lv_has ls' nL ((i, am_cv ad v) :: (am_pairs ad loc).filter (fun q => !(q.1 == i) && !(q.1 + 1 == i && q.2.category == 2)))) : am_L ad nL (am_st v i 0 loc) ls' := by
  refine ⟨h'.1, h'.2.1, by rw [am_st_len]; exact h.2.2.1, fun j u hj hu => ?_⟩
  rw [am_st_get] at hj
  cases e : loc[j]? with
  | none => rw [e] at hj; simp at hj
  | some w =>
    rw [e] at hj
    simp only [Option.map_some, Option.some.injEq, Nat.zero_add, hc] at hj
    by_cases hji : j = i
    · subst hji
      simp at hj
      subst hj
      exact h'.2.2 (j, am_cv ad v) (List.mem_cons_self)
    · have e1 : Nat.beq j i = false := am_bF hji
      rw [e1] at hj
      simp only [cond_false] at hj
      have e3 : Nat.beq 1 2 = false := rfl
      cases hz : (Nat.beq (j + 1) i && Nat.beq w.category 2) with
      | true =>
        simp only [hz, Bool.true_or, cond_true] at hj
        exact absurd hj.symm hu
      | false =>
        simp only [hz, e3, Bool.and_false, Bool.or_false, cond_false] at hj
        subst hj
        refine h'.2.2 (j, am_cv ad w) (List.mem_cons_of_mem _ (List.mem_filter.mpr ⟨am_pairs_mem e hu, ?_⟩))
        exact am_keep1 hji hz
theorem am_L_st2 {ad : Nat → Nat} {nL : Nat} {loc : List Value} {ls ls' : Array Slot} {i : Nat} {v : Value} (h : am_L ad nL loc ls) (hc : v.category = 2) (h' : lv_has ls' nL ((i, am_cv ad v) :: (am_pairs ad loc).filter (fun q => !(q.1 == i) && (!(q.1 == i + 1) && !(q.1 + 1 == i && q.2.category == 2))))) : am_L ad nL (am_st v i 0 loc) ls' := by
  refine ⟨h'.1, h'.2.1, by rw [am_st_len]; exact h.2.2.1, fun j u hj hu => ?_⟩
  rw [am_st_get] at hj
  cases e : loc[j]? with
  | none => rw [e] at hj; simp at hj
  | some w =>
    rw [e] at hj
    simp only [Option.map_some, Option.some.injEq, Nat.zero_add, hc] at hj
    by_cases hji : j = i
    · subst hji
      simp at hj
      subst hj
      exact h'.2.2 (j, am_cv ad v) (List.mem_cons_self)
    · have e1 : Nat.beq j i = false := am_bF hji
      rw [e1] at hj
      simp only [cond_false] at hj
      by_cases hj1 : j = i + 1
      · have e2 : Nat.beq j (i + 1) = true := am_bT hj1
        simp only [e2, show Nat.beq 2 2 = true from rfl, Bool.true_and, Bool.or_true, cond_true] at hj
        exact absurd hj.symm hu
      · have e2 : Nat.beq j (i + 1) = false := am_bF hj1
        cases hz : (Nat.beq (j + 1) i && Nat.beq w.category 2) with
        | true =>
          simp only [hz, Bool.true_or, cond_true] at hj
          exact absurd hj.symm hu
        | false =>
          simp only [hz, e2, Bool.false_and, Bool.or_false, cond_false] at hj
          subst hj
          refine h'.2.2 (j, am_cv ad w) (List.mem_cons_of_mem _ (List.mem_filter.mpr ⟨am_pairs_mem e hu, ?_⟩))
          exact am_keep2 hji hj1 hz
theorem am_lt {loc : List Value} {i nL : Nat} (h : Nat.blt i loc.length = true) (e : loc.length = nL) : i < nL := by rw [← e]; exact Nat.blt_eq.mp h
theorem x_mono {h : List amSh} {M : amM} {pc : Nat} {loc st : List Value} {S : amS} {Q Q' : Option Value → amS → Prop} (hq : ∀ v S', Q v S' → Q' v S') (k : X h M pc loc st S Q) : X h M pc loc st S Q' := by
  intro p l e R s m args below meth c D ad ca H0 H locs ls QQ hC hL hP hS hr
  exact k p l e R s m args below meth c D ad ca H0 H locs ls QQ hC hL hP hS (fun v S' H' locs' pc' ls' hv => hr v S' H' locs' pc' ls' (hq v S' hv))
section XR
variable {h : List amSh} {M : amM} {pc : Nat} {loc st : List Value} {S : amS} {Q : Option Value → amS → Prop}

theorem x_iconst {n : Int} (hd : decode M.2.1 pc = .ok (.iconst n, 1))  (k : X h M (pc + 1) loc (.int (Int32.ofInt n) :: st) S Q) : X h M pc loc (st) S Q := by
  intro p l e R s m args below meth c D ad ca H0 H locs ls QQ hC hL hP hS hr
  obtain ⟨hx, hb, hml, hown, hts, hK, inj, hfr, hlo⟩ := (show _ from hC)
  exact lv_iconst hx hb hd rfl (k p l e R s m args below meth c D ad ca H0 H locs ls QQ hC hL hP hS hr)
theorem x_bipush {n : Int} (hd : decode M.2.1 pc = .ok (.bipush n, 2))  (k : X h M (pc + 2) loc (.int (Int8.ofInt n).toInt32 :: st) S Q) : X h M pc loc (st) S Q := by
  intro p l e R s m args below meth c D ad ca H0 H locs ls QQ hC hL hP hS hr
  obtain ⟨hx, hb, hml, hown, hts, hK, inj, hfr, hlo⟩ := (show _ from hC)
  exact lv_bipush hx hb hd rfl (k p l e R s m args below meth c D ad ca H0 H locs ls QQ hC hL hP hS hr)
theorem x_sipush {n : Int} (hd : decode M.2.1 pc = .ok (.sipush n, 3))  (k : X h M (pc + 3) loc (.int (Int16.ofInt n).toInt32 :: st) S Q) : X h M pc loc (st) S Q := by
  intro p l e R s m args below meth c D ad ca H0 H locs ls QQ hC hL hP hS hr
  obtain ⟨hx, hb, hml, hown, hts, hK, inj, hfr, hlo⟩ := (show _ from hC)
  exact lv_sipush hx hb hd rfl (k p l e R s m args below meth c D ad ca H0 H locs ls QQ hC hL hP hS hr)
theorem x_lconst {n : Fin 2} (hd : decode M.2.1 pc = .ok (.lconst n, 1))  (k : X h M (pc + 1) loc (.long (Int64.ofNat n) :: st) S Q) : X h M pc loc (st) S Q := by
  intro p l e R s m args below meth c D ad ca H0 H locs ls QQ hC hL hP hS hr
  obtain ⟨hx, hb, hml, hown, hts, hK, inj, hfr, hlo⟩ := (show _ from hC)
  exact lv_lconst hx hb hd rfl (k p l e R s m args below meth c D ad ca H0 H locs ls QQ hC hL hP hS hr)
theorem x_iload_n {n : Fin 4} {x : Int32} (hd : decode M.2.1 pc = .ok (.iload_n n, 1)) (hl : am_ld loc n = .int x) (k : X h M (pc + 1) loc (.int x :: st) S Q) : X h M pc loc (st) S Q := by
  intro p l e R s m args below meth c D ad ca H0 H locs ls QQ hC hL hP hS hr
  obtain ⟨hx, hb, hml, hown, hts, hK, inj, hfr, hlo⟩ := (show _ from hC)
  exact lv_iload_n hx hb hd rfl (am_L_at hL hl (by simp)) (k p l e R s m args below meth c D ad ca H0 H locs ls QQ hC hL hP hS hr)
theorem x_iload {n : Nat} {x : Int32} (hd : decode M.2.1 pc = .ok (.iload n, 2)) (hl : am_ld loc n = .int x) (k : X h M (pc + 2) loc (.int x :: st) S Q) : X h M pc loc (st) S Q := by
  intro p l e R s m args below meth c D ad ca H0 H locs ls QQ hC hL hP hS hr
  obtain ⟨hx, hb, hml, hown, hts, hK, inj, hfr, hlo⟩ := (show _ from hC)
  exact lv_iload hx hb hd (am_L_at hL hl (by simp)) (k p l e R s m args below meth c D ad ca H0 H locs ls QQ hC hL hP hS hr)
theorem x_lload_n {n : Fin 4} {x : Int64} (hd : decode M.2.1 pc = .ok (.lload_n n, 1)) (hl : am_ld loc n = .long x) (k : X h M (pc + 1) loc (.long x :: st) S Q) : X h M pc loc (st) S Q := by
  intro p l e R s m args below meth c D ad ca H0 H locs ls QQ hC hL hP hS hr
  obtain ⟨hx, hb, hml, hown, hts, hK, inj, hfr, hlo⟩ := (show _ from hC)
  exact lv_lload_n hx hb hd rfl (am_L_at hL hl (by simp)) (k p l e R s m args below meth c D ad ca H0 H locs ls QQ hC hL hP hS hr)
theorem x_lload {n : Nat} {x : Int64} (hd : decode M.2.1 pc = .ok (.lload n, 2)) (hl : am_ld loc n = .long x) (k : X h M (pc + 2) loc (.long x :: st) S Q) : X h M pc loc (st) S Q := by
  intro p l e R s m args below meth c D ad ca H0 H locs ls QQ hC hL hP hS hr
  obtain ⟨hx, hb, hml, hown, hts, hK, inj, hfr, hlo⟩ := (show _ from hC)
  exact lv_lload hx hb hd (am_L_at hL hl (by simp)) (k p l e R s m args below meth c D ad ca H0 H locs ls QQ hC hL hP hS hr)
theorem x_aload_n {n : Fin 4} {x : Nat} (hd : decode M.2.1 pc = .ok (.aload_n n, 1)) (hl : am_ld loc n = .ref x) (k : X h M (pc + 1) loc (.ref x :: st) S Q) : X h M pc loc (st) S Q := by
  intro p l e R s m args below meth c D ad ca H0 H locs ls QQ hC hL hP hS hr
  obtain ⟨hx, hb, hml, hown, hts, hK, inj, hfr, hlo⟩ := (show _ from hC)
  exact lv_aload_n hx hb hd rfl (am_L_at hL hl (by simp)) (k p l e R s m args below meth c D ad ca H0 H locs ls QQ hC hL hP hS hr)
theorem x_aload {n : Nat} {x : Nat} (hd : decode M.2.1 pc = .ok (.aload n, 2)) (hl : am_ld loc n = .ref x) (k : X h M (pc + 2) loc (.ref x :: st) S Q) : X h M pc loc (st) S Q := by
  intro p l e R s m args below meth c D ad ca H0 H locs ls QQ hC hL hP hS hr
  obtain ⟨hx, hb, hml, hown, hts, hK, inj, hfr, hlo⟩ := (show _ from hC)
  exact lv_aload hx hb hd (am_L_at hL hl (by simp)) (k p l e R s m args below meth c D ad ca H0 H locs ls QQ hC hL hP hS hr)
theorem x_iadd {x y : Int32} (hd : decode M.2.1 pc = .ok (.iadd, 1))  (k : X h M (pc + 1) loc (.int (x + y) :: st) S Q) : X h M pc loc (.int y :: .int x :: st) S Q := by
  intro p l e R s m args below meth c D ad ca H0 H locs ls QQ hC hL hP hS hr
  obtain ⟨hx, hb, hml, hown, hts, hK, inj, hfr, hlo⟩ := (show _ from hC)
  exact lv_iadd hx hb hd (k p l e R s m args below meth c D ad ca H0 H locs ls QQ hC hL hP hS hr)
theorem x_isub {x y : Int32} (hd : decode M.2.1 pc = .ok (.isub, 1))  (k : X h M (pc + 1) loc (.int (x - y) :: st) S Q) : X h M pc loc (.int y :: .int x :: st) S Q := by
  intro p l e R s m args below meth c D ad ca H0 H locs ls QQ hC hL hP hS hr
  obtain ⟨hx, hb, hml, hown, hts, hK, inj, hfr, hlo⟩ := (show _ from hC)
  exact lv_isub hx hb hd (k p l e R s m args below meth c D ad ca H0 H locs ls QQ hC hL hP hS hr)
theorem x_imul {x y : Int32} (hd : decode M.2.1 pc = .ok (.imul, 1))  (k : X h M (pc + 1) loc (.int (x * y) :: st) S Q) : X h M pc loc (.int y :: .int x :: st) S Q := by
  intro p l e R s m args below meth c D ad ca H0 H locs ls QQ hC hL hP hS hr
  obtain ⟨hx, hb, hml, hown, hts, hK, inj, hfr, hlo⟩ := (show _ from hC)
  exact lv_imul hx hb hd (k p l e R s m args below meth c D ad ca H0 H locs ls QQ hC hL hP hS hr)
theorem x_iand {x y : Int32} (hd : decode M.2.1 pc = .ok (.iand, 1))  (k : X h M (pc + 1) loc (.int (x &&& y) :: st) S Q) : X h M pc loc (.int y :: .int x :: st) S Q := by
  intro p l e R s m args below meth c D ad ca H0 H locs ls QQ hC hL hP hS hr
  obtain ⟨hx, hb, hml, hown, hts, hK, inj, hfr, hlo⟩ := (show _ from hC)
  exact lv_iand hx hb hd (k p l e R s m args below meth c D ad ca H0 H locs ls QQ hC hL hP hS hr)
theorem x_ior {x y : Int32} (hd : decode M.2.1 pc = .ok (.ior, 1))  (k : X h M (pc + 1) loc (.int (x ||| y) :: st) S Q) : X h M pc loc (.int y :: .int x :: st) S Q := by
  intro p l e R s m args below meth c D ad ca H0 H locs ls QQ hC hL hP hS hr
  obtain ⟨hx, hb, hml, hown, hts, hK, inj, hfr, hlo⟩ := (show _ from hC)
  exact lv_ior hx hb hd (k p l e R s m args below meth c D ad ca H0 H locs ls QQ hC hL hP hS hr)
theorem x_ixor {x y : Int32} (hd : decode M.2.1 pc = .ok (.ixor, 1))  (k : X h M (pc + 1) loc (.int (x ^^^ y) :: st) S Q) : X h M pc loc (.int y :: .int x :: st) S Q := by
  intro p l e R s m args below meth c D ad ca H0 H locs ls QQ hC hL hP hS hr
  obtain ⟨hx, hb, hml, hown, hts, hK, inj, hfr, hlo⟩ := (show _ from hC)
  exact lv_ixor hx hb hd (k p l e R s m args below meth c D ad ca H0 H locs ls QQ hC hL hP hS hr)
theorem x_ishl {x y : Int32} (hd : decode M.2.1 pc = .ok (.ishl, 1))  (k : X h M (pc + 1) loc (.int (x <<< (y &&& 31)) :: st) S Q) : X h M pc loc (.int y :: .int x :: st) S Q := by
  intro p l e R s m args below meth c D ad ca H0 H locs ls QQ hC hL hP hS hr
  obtain ⟨hx, hb, hml, hown, hts, hK, inj, hfr, hlo⟩ := (show _ from hC)
  exact lv_ishl hx hb hd (k p l e R s m args below meth c D ad ca H0 H locs ls QQ hC hL hP hS hr)
theorem x_ishr {x y : Int32} (hd : decode M.2.1 pc = .ok (.ishr, 1))  (k : X h M (pc + 1) loc (.int (x >>> (y &&& 31)) :: st) S Q) : X h M pc loc (.int y :: .int x :: st) S Q := by
  intro p l e R s m args below meth c D ad ca H0 H locs ls QQ hC hL hP hS hr
  obtain ⟨hx, hb, hml, hown, hts, hK, inj, hfr, hlo⟩ := (show _ from hC)
  exact lv_ishr hx hb hd (k p l e R s m args below meth c D ad ca H0 H locs ls QQ hC hL hP hS hr)
theorem x_iushr {x y : Int32} (hd : decode M.2.1 pc = .ok (.iushr, 1))  (k : X h M (pc + 1) loc (.int (x.toUInt32 >>> (y.toUInt32 &&& Int32.toUInt32 31)).toInt32 :: st) S Q) : X h M pc loc (.int y :: .int x :: st) S Q := by
  intro p l e R s m args below meth c D ad ca H0 H locs ls QQ hC hL hP hS hr
  obtain ⟨hx, hb, hml, hown, hts, hK, inj, hfr, hlo⟩ := (show _ from hC)
  exact lv_iushr hx hb hd rfl (k p l e R s m args below meth c D ad ca H0 H locs ls QQ hC hL hP hS hr)
theorem x_idiv {x y : Int32} (hd : decode M.2.1 pc = .ok (.idiv, 1)) (hne : ¬ y = 0) (k : X h M (pc + 1) loc (.int (x / y) :: st) S Q) : X h M pc loc (.int y :: .int x :: st) S Q := by
  intro p l e R s m args below meth c D ad ca H0 H locs ls QQ hC hL hP hS hr
  obtain ⟨hx, hb, hml, hown, hts, hK, inj, hfr, hlo⟩ := (show _ from hC)
  exact lv_idiv hx hb hd hne (k p l e R s m args below meth c D ad ca H0 H locs ls QQ hC hL hP hS hr)
theorem x_irem {x y : Int32} (hd : decode M.2.1 pc = .ok (.irem, 1)) (hne : ¬ y = 0) (k : X h M (pc + 1) loc (.int (x - x / y * y) :: st) S Q) : X h M pc loc (.int y :: .int x :: st) S Q := by
  intro p l e R s m args below meth c D ad ca H0 H locs ls QQ hC hL hP hS hr
  obtain ⟨hx, hb, hml, hown, hts, hK, inj, hfr, hlo⟩ := (show _ from hC)
  exact lv_irem hx hb hd hne (k p l e R s m args below meth c D ad ca H0 H locs ls QQ hC hL hP hS hr)
theorem x_ineg {x : Int32} (hd : decode M.2.1 pc = .ok (.ineg, 1))  (k : X h M (pc + 1) loc (.int (-x) :: st) S Q) : X h M pc loc (.int x :: st) S Q := by
  intro p l e R s m args below meth c D ad ca H0 H locs ls QQ hC hL hP hS hr
  obtain ⟨hx, hb, hml, hown, hts, hK, inj, hfr, hlo⟩ := (show _ from hC)
  exact lv_ineg hx hb hd (k p l e R s m args below meth c D ad ca H0 H locs ls QQ hC hL hP hS hr)
theorem x_ladd {x y : Int64} (hd : decode M.2.1 pc = .ok (.ladd, 1))  (k : X h M (pc + 1) loc (.long (x + y) :: st) S Q) : X h M pc loc (.long y :: .long x :: st) S Q := by
  intro p l e R s m args below meth c D ad ca H0 H locs ls QQ hC hL hP hS hr
  obtain ⟨hx, hb, hml, hown, hts, hK, inj, hfr, hlo⟩ := (show _ from hC)
  exact lv_ladd hx hb hd (k p l e R s m args below meth c D ad ca H0 H locs ls QQ hC hL hP hS hr)
theorem x_lsub {x y : Int64} (hd : decode M.2.1 pc = .ok (.lsub, 1))  (k : X h M (pc + 1) loc (.long (x - y) :: st) S Q) : X h M pc loc (.long y :: .long x :: st) S Q := by
  intro p l e R s m args below meth c D ad ca H0 H locs ls QQ hC hL hP hS hr
  obtain ⟨hx, hb, hml, hown, hts, hK, inj, hfr, hlo⟩ := (show _ from hC)
  exact lv_lsub hx hb hd (k p l e R s m args below meth c D ad ca H0 H locs ls QQ hC hL hP hS hr)
theorem x_lmul {x y : Int64} (hd : decode M.2.1 pc = .ok (.lmul, 1))  (k : X h M (pc + 1) loc (.long (x * y) :: st) S Q) : X h M pc loc (.long y :: .long x :: st) S Q := by
  intro p l e R s m args below meth c D ad ca H0 H locs ls QQ hC hL hP hS hr
  obtain ⟨hx, hb, hml, hown, hts, hK, inj, hfr, hlo⟩ := (show _ from hC)
  exact lv_lmul hx hb hd (k p l e R s m args below meth c D ad ca H0 H locs ls QQ hC hL hP hS hr)
theorem x_ldiv {x y : Int64} (hd : decode M.2.1 pc = .ok (.ldiv, 1)) (hne : ¬ y = 0) (k : X h M (pc + 1) loc (.long (x / y) :: st) S Q) : X h M pc loc (.long y :: .long x :: st) S Q := by
  intro p l e R s m args below meth c D ad ca H0 H locs ls QQ hC hL hP hS hr
  obtain ⟨hx, hb, hml, hown, hts, hK, inj, hfr, hlo⟩ := (show _ from hC)
  exact lv_ldiv hx hb hd hne (k p l e R s m args below meth c D ad ca H0 H locs ls QQ hC hL hP hS hr)
theorem x_lrem {x y : Int64} (hd : decode M.2.1 pc = .ok (.lrem, 1)) (hne : ¬ y = 0) (k : X h M (pc + 1) loc (.long (x - x / y * y) :: st) S Q) : X h M pc loc (.long y :: .long x :: st) S Q := by
  intro p l e R s m args below meth c D ad ca H0 H locs ls QQ hC hL hP hS hr
  obtain ⟨hx, hb, hml, hown, hts, hK, inj, hfr, hlo⟩ := (show _ from hC)
  exact lv_lrem hx hb hd hne (k p l e R s m args below meth c D ad ca H0 H locs ls QQ hC hL hP hS hr)
theorem x_lneg {x : Int64} (hd : decode M.2.1 pc = .ok (.lneg, 1))  (k : X h M (pc + 1) loc (.long (-x) :: st) S Q) : X h M pc loc (.long x :: st) S Q := by
  intro p l e R s m args below meth c D ad ca H0 H locs ls QQ hC hL hP hS hr
  obtain ⟨hx, hb, hml, hown, hts, hK, inj, hfr, hlo⟩ := (show _ from hC)
  exact lv_lneg hx hb hd (k p l e R s m args below meth c D ad ca H0 H locs ls QQ hC hL hP hS hr)
theorem x_lcmp {x y : Int64} (hd : decode M.2.1 pc = .ok (.lcmp, 1))  (k : X h M (pc + 1) loc (.int (lg_cmp x y) :: st) S Q) : X h M pc loc (.long y :: .long x :: st) S Q := by
  intro p l e R s m args below meth c D ad ca H0 H locs ls QQ hC hL hP hS hr
  obtain ⟨hx, hb, hml, hown, hts, hK, inj, hfr, hlo⟩ := (show _ from hC)
  exact W.lcmp hx hb hd (k p l e R s m args below meth c D ad ca H0 H locs ls QQ hC hL hP hS hr)
theorem x_i2l {x : Int32} (hd : decode M.2.1 pc = .ok (.i2l, 1))  (k : X h M (pc + 1) loc (.long x.toInt64 :: st) S Q) : X h M pc loc (.int x :: st) S Q := by
  intro p l e R s m args below meth c D ad ca H0 H locs ls QQ hC hL hP hS hr
  obtain ⟨hx, hb, hml, hown, hts, hK, inj, hfr, hlo⟩ := (show _ from hC)
  exact lv_i2l hx hb hd rfl (k p l e R s m args below meth c D ad ca H0 H locs ls QQ hC hL hP hS hr)
theorem x_l2i {x : Int64} (hd : decode M.2.1 pc = .ok (.l2i, 1))  (k : X h M (pc + 1) loc (.int x.toInt32 :: st) S Q) : X h M pc loc (.long x :: st) S Q := by
  intro p l e R s m args below meth c D ad ca H0 H locs ls QQ hC hL hP hS hr
  obtain ⟨hx, hb, hml, hown, hts, hK, inj, hfr, hlo⟩ := (show _ from hC)
  exact lv_l2i hx hb hd rfl (k p l e R s m args below meth c D ad ca H0 H locs ls QQ hC hL hP hS hr)
theorem x_i2b {x : Int32} (hd : decode M.2.1 pc = .ok (.i2b, 1))  (k : X h M (pc + 1) loc (.int x.toInt8.toInt32 :: st) S Q) : X h M pc loc (.int x :: st) S Q := by
  intro p l e R s m args below meth c D ad ca H0 H locs ls QQ hC hL hP hS hr
  obtain ⟨hx, hb, hml, hown, hts, hK, inj, hfr, hlo⟩ := (show _ from hC)
  exact lv_i2b hx hb hd rfl (k p l e R s m args below meth c D ad ca H0 H locs ls QQ hC hL hP hS hr)
theorem x_dup {v : Value} (hd : decode M.2.1 pc = .ok (.dup, 1)) (hv : v.category = 1) (k : X h M (pc + 1) loc (v :: v :: st) S Q) : X h M pc loc (v :: st) S Q := by
  intro p l e R s m args below meth c D ad ca H0 H locs ls QQ hC hL hP hS hr
  obtain ⟨hx, hb, hml, hown, hts, hK, inj, hfr, hlo⟩ := (show _ from hC)
  exact lv_dup hx hb hd (by rw [am_cv_cat]; exact hv) (k p l e R s m args below meth c D ad ca H0 H locs ls QQ hC hL hP hS hr)
theorem x_pop {v : Value} (hd : decode M.2.1 pc = .ok (.pop, 1)) (hv : v.category = 1) (k : X h M (pc + 1) loc (st) S Q) : X h M pc loc (v :: st) S Q := by
  intro p l e R s m args below meth c D ad ca H0 H locs ls QQ hC hL hP hS hr
  obtain ⟨hx, hb, hml, hown, hts, hK, inj, hfr, hlo⟩ := (show _ from hC)
  exact lv_pop hx hb hd (by rw [am_cv_cat]; exact hv) (k p l e R s m args below meth c D ad ca H0 H locs ls QQ hC hL hP hS hr)
theorem x_dup2 {v u : Value} (hd : decode M.2.1 pc = .ok (.dup2, 1)) (hv : v.category = 1) (hu : u.category = 1) (k : X h M (pc + 1) loc (v :: u :: v :: u :: st) S Q) : X h M pc loc (v :: u :: st) S Q := by
  intro p l e R s m args below meth c D ad ca H0 H locs ls QQ hC hL hP hS hr
  obtain ⟨hx, hb, hml, hown, hts, hK, inj, hfr, hlo⟩ := (show _ from hC)
  exact lv_dup2_11 hx hb hd (by rw [am_cv_cat]; exact hv) (by rw [am_cv_cat]; exact hu) (k p l e R s m args below meth c D ad ca H0 H locs ls QQ hC hL hP hS hr)
theorem x_dup2l {v : Value} (hd : decode M.2.1 pc = .ok (.dup2, 1)) (hv : v.category = 2) (k : X h M (pc + 1) loc (v :: v :: st) S Q) : X h M pc loc (v :: st) S Q := by
  intro p l e R s m args below meth c D ad ca H0 H locs ls QQ hC hL hP hS hr
  obtain ⟨hx, hb, hml, hown, hts, hK, inj, hfr, hlo⟩ := (show _ from hC)
  exact lv_dup2_2 hx hb hd (by rw [am_cv_cat]; exact hv) (k p l e R s m args below meth c D ad ca H0 H locs ls QQ hC hL hP hS hr)
theorem x_istore_n {n : Fin 4} {x : Int32} (hd : decode M.2.1 pc = .ok (.istore_n n, 1)) (hn : Nat.blt (n) loc.length = true) (k : X h M (pc + 1) (am_st (.int x) n 0 loc) st S Q) : X h M pc loc (.int x :: st) S Q := by
  intro p l e R s m args below meth c D ad ca H0 H locs ls QQ hC hL hP hS hr
  obtain ⟨hx, hb, hml, hown, hts, hK, inj, hfr, hlo⟩ := (show _ from hC)
  exact lv_istore_n hx hb hd rfl (am_L_has hL) (am_lt hn hL.2.2.1) rfl (fun ls' hl' => k p l e R s m args below meth c D ad ca H0 H locs ls' QQ hC (am_L_st1 hL rfl hl') hP hS hr)
theorem x_istore {n : Nat} {x : Int32} (hd : decode M.2.1 pc = .ok (.istore n, 2)) (hn : Nat.blt (n) loc.length = true) (k : X h M (pc + 2) (am_st (.int x) n 0 loc) st S Q) : X h M pc loc (.int x :: st) S Q := by
  intro p l e R s m args below meth c D ad ca H0 H locs ls QQ hC hL hP hS hr
  obtain ⟨hx, hb, hml, hown, hts, hK, inj, hfr, hlo⟩ := (show _ from hC)
  exact lv_istore hx hb hd (am_L_has hL) (am_lt hn hL.2.2.1) rfl (fun ls' hl' => k p l e R s m args below meth c D ad ca H0 H locs ls' QQ hC (am_L_st1 hL rfl hl') hP hS hr)
theorem x_lstore_n {n : Fin 4} {x : Int64} (hd : decode M.2.1 pc = .ok (.lstore_n n, 1)) (hn : Nat.blt (n + 1) loc.length = true) (k : X h M (pc + 1) (am_st (.long x) n 0 loc) st S Q) : X h M pc loc (.long x :: st) S Q := by
  intro p l e R s m args below meth c D ad ca H0 H locs ls QQ hC hL hP hS hr
  obtain ⟨hx, hb, hml, hown, hts, hK, inj, hfr, hlo⟩ := (show _ from hC)
  exact lv_lstore_n hx hb hd rfl (am_L_has hL) (am_lt hn hL.2.2.1) rfl (fun ls' hl' => k p l e R s m args below meth c D ad ca H0 H locs ls' QQ hC (am_L_st2 hL rfl hl') hP hS hr)
theorem x_lstore {n : Nat} {x : Int64} (hd : decode M.2.1 pc = .ok (.lstore n, 2)) (hn : Nat.blt (n + 1) loc.length = true) (k : X h M (pc + 2) (am_st (.long x) n 0 loc) st S Q) : X h M pc loc (.long x :: st) S Q := by
  intro p l e R s m args below meth c D ad ca H0 H locs ls QQ hC hL hP hS hr
  obtain ⟨hx, hb, hml, hown, hts, hK, inj, hfr, hlo⟩ := (show _ from hC)
  exact lv_lstore hx hb hd (am_L_has hL) (am_lt hn hL.2.2.1) rfl (fun ls' hl' => k p l e R s m args below meth c D ad ca H0 H locs ls' QQ hC (am_L_st2 hL rfl hl') hP hS hr)
theorem x_astore_n {n : Fin 4} {x : Nat} (hd : decode M.2.1 pc = .ok (.astore_n n, 1)) (hn : Nat.blt (n) loc.length = true) (k : X h M (pc + 1) (am_st (.ref x) n 0 loc) st S Q) : X h M pc loc (.ref x :: st) S Q := by
  intro p l e R s m args below meth c D ad ca H0 H locs ls QQ hC hL hP hS hr
  obtain ⟨hx, hb, hml, hown, hts, hK, inj, hfr, hlo⟩ := (show _ from hC)
  exact lv_astore_n hx hb hd rfl (am_L_has hL) (am_lt hn hL.2.2.1) rfl (fun ls' hl' => k p l e R s m args below meth c D ad ca H0 H locs ls' QQ hC (am_L_st1 hL rfl hl') hP hS hr)
theorem x_astore {n : Nat} {x : Nat} (hd : decode M.2.1 pc = .ok (.astore n, 2)) (hn : Nat.blt (n) loc.length = true) (k : X h M (pc + 2) (am_st (.ref x) n 0 loc) st S Q) : X h M pc loc (.ref x :: st) S Q := by
  intro p l e R s m args below meth c D ad ca H0 H locs ls QQ hC hL hP hS hr
  obtain ⟨hx, hb, hml, hown, hts, hK, inj, hfr, hlo⟩ := (show _ from hC)
  exact lv_astore hx hb hd (am_L_has hL) (am_lt hn hL.2.2.1) rfl (fun ls' hl' => k p l e R s m args below meth c D ad ca H0 H locs ls' QQ hC (am_L_st1 hL rfl hl') hP hS hr)
theorem x_iinc {n : Nat} {d : Int} {x : Int32} (hd : decode M.2.1 pc = .ok (.iinc n d, 3)) (hl : am_ld loc n = .int x) (hn : Nat.blt n loc.length = true) (k : X h M (pc + 3) (am_st (.int (x + Int32.ofInt d)) n 0 loc) st S Q) : X h M pc loc st S Q := by
  intro p l e R s m args below meth c D ad ca H0 H locs ls QQ hC hL hP hS hr
  obtain ⟨hx, hb, hml, hown, hts, hK, inj, hfr, hlo⟩ := (show _ from hC)
  obtain ⟨kk, hkk⟩ := List.getElem?_of_mem (am_pairs_mem (ad := ad) (am_ld_some hl (by simp)) (by simp))
  exact lv_iinc hx hb hd (am_L_has hL) hkk rfl (am_lt hn hL.2.2.1) rfl (fun ls' hl' => k p l e R s m args below meth c D ad ca H0 H locs ls' QQ hC (am_L_st1 hL rfl hl') hP hS hr)
theorem x_if_eq {x : Int32} {off : Int} (tgt : Nat) (hd : decode M.2.1 pc = .ok (.ifCond .eq off, 3)) (ht : (pc : Int) + off = (tgt : Int)) (kt : x = 0 → X h M tgt loc st S Q) (kf : ¬ x = 0 → X h M (pc + 3) loc st S Q) : X h M pc loc (.int x :: st) S Q := by
  intro p l e R s m args below meth c D ad ca H0 H locs ls QQ hC hL hP hS hr
  obtain ⟨hx, hb, hml, hown, hts, hK, inj, hfr, hlo⟩ := (show _ from hC)
  exact lv_if_eq hx hb hd ht (fun z => kt z p l e R s m args below meth c D ad ca H0 H locs ls QQ hC hL hP hS hr) (fun z => kf z p l e R s m args below meth c D ad ca H0 H locs ls QQ hC hL hP hS hr)
theorem x_if_ne {x : Int32} {off : Int} (tgt : Nat) (hd : decode M.2.1 pc = .ok (.ifCond .ne off, 3)) (ht : (pc : Int) + off = (tgt : Int)) (kt : ¬ x = 0 → X h M tgt loc st S Q) (kf : x = 0 → X h M (pc + 3) loc st S Q) : X h M pc loc (.int x :: st) S Q := by
  intro p l e R s m args below meth c D ad ca H0 H locs ls QQ hC hL hP hS hr
  obtain ⟨hx, hb, hml, hown, hts, hK, inj, hfr, hlo⟩ := (show _ from hC)
  exact lv_if_ne hx hb hd ht (fun z => kt z p l e R s m args below meth c D ad ca H0 H locs ls QQ hC hL hP hS hr) (fun z => kf z p l e R s m args below meth c D ad ca H0 H locs ls QQ hC hL hP hS hr)
theorem x_if_lt {x : Int32} {off : Int} (tgt : Nat) (hd : decode M.2.1 pc = .ok (.ifCond .lt off, 3)) (ht : (pc : Int) + off = (tgt : Int)) (kt : x < 0 → X h M tgt loc st S Q) (kf : ¬ x < 0 → X h M (pc + 3) loc st S Q) : X h M pc loc (.int x :: st) S Q := by
  intro p l e R s m args below meth c D ad ca H0 H locs ls QQ hC hL hP hS hr
  obtain ⟨hx, hb, hml, hown, hts, hK, inj, hfr, hlo⟩ := (show _ from hC)
  exact lv_if_lt hx hb hd ht (fun z => kt z p l e R s m args below meth c D ad ca H0 H locs ls QQ hC hL hP hS hr) (fun z => kf z p l e R s m args below meth c D ad ca H0 H locs ls QQ hC hL hP hS hr)
theorem x_if_ge {x : Int32} {off : Int} (tgt : Nat) (hd : decode M.2.1 pc = .ok (.ifCond .ge off, 3)) (ht : (pc : Int) + off = (tgt : Int)) (kt : 0 ≤ x → X h M tgt loc st S Q) (kf : ¬ 0 ≤ x → X h M (pc + 3) loc st S Q) : X h M pc loc (.int x :: st) S Q := by
  intro p l e R s m args below meth c D ad ca H0 H locs ls QQ hC hL hP hS hr
  obtain ⟨hx, hb, hml, hown, hts, hK, inj, hfr, hlo⟩ := (show _ from hC)
  exact lv_if_ge hx hb hd ht (fun z => kt z p l e R s m args below meth c D ad ca H0 H locs ls QQ hC hL hP hS hr) (fun z => kf z p l e R s m args below meth c D ad ca H0 H locs ls QQ hC hL hP hS hr)
theorem x_if_gt {x : Int32} {off : Int} (tgt : Nat) (hd : decode M.2.1 pc = .ok (.ifCond .gt off, 3)) (ht : (pc : Int) + off = (tgt : Int)) (kt : 0 < x → X h M tgt loc st S Q) (kf : ¬ 0 < x → X h M (pc + 3) loc st S Q) : X h M pc loc (.int x :: st) S Q := by
  intro p l e R s m args below meth c D ad ca H0 H locs ls QQ hC hL hP hS hr
  obtain ⟨hx, hb, hml, hown, hts, hK, inj, hfr, hlo⟩ := (show _ from hC)
  exact lv_if_gt hx hb hd ht (fun z => kt z p l e R s m args below meth c D ad ca H0 H locs ls QQ hC hL hP hS hr) (fun z => kf z p l e R s m args below meth c D ad ca H0 H locs ls QQ hC hL hP hS hr)
theorem x_if_le {x : Int32} {off : Int} (tgt : Nat) (hd : decode M.2.1 pc = .ok (.ifCond .le off, 3)) (ht : (pc : Int) + off = (tgt : Int)) (kt : x ≤ 0 → X h M tgt loc st S Q) (kf : ¬ x ≤ 0 → X h M (pc + 3) loc st S Q) : X h M pc loc (.int x :: st) S Q := by
  intro p l e R s m args below meth c D ad ca H0 H locs ls QQ hC hL hP hS hr
  obtain ⟨hx, hb, hml, hown, hts, hK, inj, hfr, hlo⟩ := (show _ from hC)
  exact lv_if_le hx hb hd ht (fun z => kt z p l e R s m args below meth c D ad ca H0 H locs ls QQ hC hL hP hS hr) (fun z => kf z p l e R s m args below meth c D ad ca H0 H locs ls QQ hC hL hP hS hr)
theorem x_icmp_eq {x y : Int32} {off : Int} (tgt : Nat) (hd : decode M.2.1 pc = .ok (.if_icmp .eq off, 3)) (ht : (pc : Int) + off = (tgt : Int)) (kt : x = y → X h M tgt loc st S Q) (kf : ¬ x = y → X h M (pc + 3) loc st S Q) : X h M pc loc (.int y :: .int x :: st) S Q := by
  intro p l e R s m args below meth c D ad ca H0 H locs ls QQ hC hL hP hS hr
  obtain ⟨hx, hb, hml, hown, hts, hK, inj, hfr, hlo⟩ := (show _ from hC)
  exact lv_icmp_eq hx hb hd ht (fun z => kt z p l e R s m args below meth c D ad ca H0 H locs ls QQ hC hL hP hS hr) (fun z => kf z p l e R s m args below meth c D ad ca H0 H locs ls QQ hC hL hP hS hr)
theorem x_icmp_ne {x y : Int32} {off : Int} (tgt : Nat) (hd : decode M.2.1 pc = .ok (.if_icmp .ne off, 3)) (ht : (pc : Int) + off = (tgt : Int)) (kt : ¬ x = y → X h M tgt loc st S Q) (kf : x = y → X h M (pc + 3) loc st S Q) : X h M pc loc (.int y :: .int x :: st) S Q := by
  intro p l e R s m args below meth c D ad ca H0 H locs ls QQ hC hL hP hS hr
  obtain ⟨hx, hb, hml, hown, hts, hK, inj, hfr, hlo⟩ := (show _ from hC)
  exact lv_icmp_ne hx hb hd ht (fun z => kt z p l e R s m args below meth c D ad ca H0 H locs ls QQ hC hL hP hS hr) (fun z => kf z p l e R s m args below meth c D ad ca H0 H locs ls QQ hC hL hP hS hr)
theorem x_icmp_lt {x y : Int32} {off : Int} (tgt : Nat) (hd : decode M.2.1 pc = .ok (.if_icmp .lt off, 3)) (ht : (pc : Int) + off = (tgt : Int)) (kt : x < y → X h M tgt loc st S Q) (kf : ¬ x < y → X h M (pc + 3) loc st S Q) : X h M pc loc (.int y :: .int x :: st) S Q := by
  intro p l e R s m args below meth c D ad ca H0 H locs ls QQ hC hL hP hS hr
  obtain ⟨hx, hb, hml, hown, hts, hK, inj, hfr, hlo⟩ := (show _ from hC)
  exact lv_icmp_lt hx hb hd ht (fun z => kt z p l e R s m args below meth c D ad ca H0 H locs ls QQ hC hL hP hS hr) (fun z => kf z p l e R s m args below meth c D ad ca H0 H locs ls QQ hC hL hP hS hr)
theorem x_icmp_ge {x y : Int32} {off : Int} (tgt : Nat) (hd : decode M.2.1 pc = .ok (.if_icmp .ge off, 3)) (ht : (pc : Int) + off = (tgt : Int)) (kt : y ≤ x → X h M tgt loc st S Q) (kf : ¬ y ≤ x → X h M (pc + 3) loc st S Q) : X h M pc loc (.int y :: .int x :: st) S Q := by
  intro p l e R s m args below meth c D ad ca H0 H locs ls QQ hC hL hP hS hr
  obtain ⟨hx, hb, hml, hown, hts, hK, inj, hfr, hlo⟩ := (show _ from hC)
  exact lv_icmp_ge hx hb hd ht (fun z => kt z p l e R s m args below meth c D ad ca H0 H locs ls QQ hC hL hP hS hr) (fun z => kf z p l e R s m args below meth c D ad ca H0 H locs ls QQ hC hL hP hS hr)
theorem x_icmp_gt {x y : Int32} {off : Int} (tgt : Nat) (hd : decode M.2.1 pc = .ok (.if_icmp .gt off, 3)) (ht : (pc : Int) + off = (tgt : Int)) (kt : y < x → X h M tgt loc st S Q) (kf : ¬ y < x → X h M (pc + 3) loc st S Q) : X h M pc loc (.int y :: .int x :: st) S Q := by
  intro p l e R s m args below meth c D ad ca H0 H locs ls QQ hC hL hP hS hr
  obtain ⟨hx, hb, hml, hown, hts, hK, inj, hfr, hlo⟩ := (show _ from hC)
  exact lv_icmp_gt hx hb hd ht (fun z => kt z p l e R s m args below meth c D ad ca H0 H locs ls QQ hC hL hP hS hr) (fun z => kf z p l e R s m args below meth c D ad ca H0 H locs ls QQ hC hL hP hS hr)
theorem x_icmp_le {x y : Int32} {off : Int} (tgt : Nat) (hd : decode M.2.1 pc = .ok (.if_icmp .le off, 3)) (ht : (pc : Int) + off = (tgt : Int)) (kt : x ≤ y → X h M tgt loc st S Q) (kf : ¬ x ≤ y → X h M (pc + 3) loc st S Q) : X h M pc loc (.int y :: .int x :: st) S Q := by
  intro p l e R s m args below meth c D ad ca H0 H locs ls QQ hC hL hP hS hr
  obtain ⟨hx, hb, hml, hown, hts, hK, inj, hfr, hlo⟩ := (show _ from hC)
  exact lv_icmp_le hx hb hd ht (fun z => kt z p l e R s m args below meth c D ad ca H0 H locs ls QQ hC hL hP hS hr) (fun z => kf z p l e R s m args below meth c D ad ca H0 H locs ls QQ hC hL hP hS hr)
theorem x_goto {off : Int} (tgt : Nat) (hd : decode M.2.1 pc = .ok (.goto off, 3)) (ht : (pc : Int) + off = (tgt : Int)) (k : X h M tgt loc st S Q) : X h M pc loc st S Q := by
  intro p l e R s m args below meth c D ad ca H0 H locs ls QQ hC hL hP hS hr
  obtain ⟨hx, hb, hml, hown, hts, hK, inj, hfr, hlo⟩ := (show _ from hC)
  exact lv_goto hx hb hd ht (k p l e R s m args below meth c D ad ca H0 H locs ls QQ hC hL hP hS hr)
theorem x_lookup {dflt : Int} {ps : Array (Int × Int)} {len : Nat} {x : Int32} {off : Int} (tgt : Nat) (hd : decode M.2.1 pc = .ok (.lookupswitch dflt ps, len)) (hp : (ps.toList.zip (ps.toList.drop 1)).all (fun (a, next) => a.1 < next.1) = true) (ho : Op.lookupswitch.offset ps.toList dflt x.toInt = off) (ht : (pc : Int) + off = (tgt : Int)) (k : X h M tgt loc st S Q) : X h M pc loc (.int x :: st) S Q := by
  intro p l e R s m args below meth c D ad ca H0 H locs ls QQ hC hL hP hS hr
  obtain ⟨hx, hb, hml, hown, hts, hK, inj, hfr, hlo⟩ := (show _ from hC)
  exact lv_lookup hx hb hd hp ho ht (k p l e R s m args below meth c D ad ca H0 H locs ls QQ hC hL hP hS hr)
theorem x_tableOut {dflt lo hi : Int} {offs : Array Int} {len : Nat} {x : Int32} (tgt : Nat) (hd : decode M.2.1 pc = .ok (.tableswitch dflt lo hi offs, len)) (hh : x.toInt < lo ∨ hi < x.toInt) (ht : (pc : Int) + dflt = (tgt : Int)) (k : X h M tgt loc st S Q) : X h M pc loc (.int x :: st) S Q := by
  intro p l e R s m args below meth c D ad ca H0 H locs ls QQ hC hL hP hS hr
  obtain ⟨hx, hb, hml, hown, hts, hK, inj, hfr, hlo⟩ := (show _ from hC)
  exact lv_tableOut hx hb hd hh ht (k p l e R s m args below meth c D ad ca H0 H locs ls QQ hC hL hP hS hr)
theorem x_tableIn {dflt lo hi : Int} {offs : Array Int} {len : Nat} {x : Int32} {off : Int} (tgt : Nat) (hd : decode M.2.1 pc = .ok (.tableswitch dflt lo hi offs, len)) (h1 : ¬ x.toInt < lo) (h2 : ¬ hi < x.toInt) (ho : offs[(x.toInt - lo).toNat]? = some off) (ht : (pc : Int) + off = (tgt : Int)) (k : X h M tgt loc st S Q) : X h M pc loc (.int x :: st) S Q := by
  intro p l e R s m args below meth c D ad ca H0 H locs ls QQ hC hL hP hS hr
  obtain ⟨hx, hb, hml, hown, hts, hK, inj, hfr, hlo⟩ := (show _ from hC)
  exact lv_tableIn hx hb hd h1 h2 ho ht (k p l e R s m args below meth c D ad ca H0 H locs ls QQ hC hL hP hS hr)
theorem x_ldcw {i : Nat} {v : Int32} (hw : Cond.constant M.1.cls i v ∈ lw_tbl) (hd : decode M.2.1 pc = .ok (.ldc_w i, 3)) (k : X h M (pc + 3) loc (.int v :: st) S Q) : X h M pc loc st S Q := by
  intro p l e R s m args below meth c D ad ca H0 H locs ls QQ hC hL hP hS hr
  obtain ⟨hx, hb, hml, hown, hts, hK, inj, hfr, hlo⟩ := (show _ from hC)
  exact lv_ldcw hx hb hown (hts.at hw rfl args) hd (k p l e R s m args below meth c D ad ca H0 H locs ls QQ hC hL hP hS hr)
theorem x_ldc {i : Nat} {v : Int32} (hw : Cond.constant M.1.cls i v ∈ lw_tbl) (hd : decode M.2.1 pc = .ok (.ldc i, 2)) (k : X h M (pc + 2) loc (.int v :: st) S Q) : X h M pc loc st S Q := by
  intro p l e R s m args below meth c D ad ca H0 H locs ls QQ hC hL hP hS hr
  obtain ⟨hx, hb, hml, hown, hts, hK, inj, hfr, hlo⟩ := (show _ from hC)
  exact W.ldc hx hb hown (hts.at hw rfl args) rfl hd (k p l e R s m args below meth c D ad ca H0 H locs ls QQ hC hL hP hS hr)
theorem x_ldc2 {i : Nat} {v : Int64} (hw : Cond.constantLong M.1.cls i v ∈ lw_tbl) (hd : decode M.2.1 pc = .ok (.ldc2_w i, 3)) (k : X h M (pc + 3) loc (.long v :: st) S Q) : X h M pc loc st S Q := by
  intro p l e R s m args below meth c D ad ca H0 H locs ls QQ hC hL hP hS hr
  obtain ⟨hx, hb, hml, hown, hts, hK, inj, hfr, hlo⟩ := (show _ from hC)
  exact W.ldc2 hx hb hown (hts.at hw rfl args) rfl hd (k p l e R s m args below meth c D ad ca H0 H locs ls QQ hC hL hP hS hr)
theorem x_iret {x : Int32} {ty : FieldType} (hd : decode M.2.1 pc = .ok (.ireturn, 1)) (ht : M.2.2.2.1 = some ty) (hn : narrow ty (.int x) = .int x) (q : Q (some (.int x)) S) : X h M pc loc [.int x] S Q := by
  intro p l e R s m args below meth c D ad ca H0 H locs ls QQ hC hL hP hS hr
  obtain ⟨hx, hb, hml, hown, hts, hK, inj, hfr, hlo⟩ := (show _ from hC)
  exact hr (some (.int x)) S H locs pc ls q ⟨ty, ht, hn, hd⟩ hP hS
theorem x_lret {x : Int64} (hd : decode M.2.1 pc = .ok (.lreturn, 1)) (ht : M.2.2.2.1 = some .long) (q : Q (some (.long x)) S) : X h M pc loc [.long x] S Q := by
  intro p l e R s m args below meth c D ad ca H0 H locs ls QQ hC hL hP hS hr
  obtain ⟨hx, hb, hml, hown, hts, hK, inj, hfr, hlo⟩ := (show _ from hC)
  exact hr (some (.long x)) S H locs pc ls q ⟨ht, hd⟩ hP hS
theorem x_aret {x : Nat} {rt : FieldType} (hd : decode M.2.1 pc = .ok (.areturn, 1)) (ht : M.2.2.2.1 = some rt) (hrt : (∃ n, rt = .object n) ∨ ∃ t, rt = .array t) (q : Q (some (.ref x)) S) : X h M pc loc [.ref x] S Q := by
  intro p l e R s m args below meth c D ad ca H0 H locs ls QQ hC hL hP hS hr
  obtain ⟨hx, hb, hml, hown, hts, hK, inj, hfr, hlo⟩ := (show _ from hC)
  exact hr (some (.ref x)) S H locs pc ls q ⟨rt, ht, hrt, hd⟩ hP hS
theorem x_ret (hd : decode M.2.1 pc = .ok (.return_, 1)) (ht : M.2.2.2.1 = none) (q : Q none S) : X h M pc loc [] S Q := by
  intro p l e R s m args below meth c D ad ca H0 H locs ls QQ hC hL hP hS hr
  obtain ⟨hx, hb, hml, hown, hts, hK, inj, hfr, hlo⟩ := (show _ from hC)
  exact hr none S H locs pc ls q ⟨ht, hd⟩ hP hS
/-- the words of a field of kind ci, slot k, by an entry of a class's pool -/
def am_FL (own : String) (idx ci k : Nat) : Prop := ∃ (C : String) (T : u_T) (N : Nat), vwCl[ci]? = some (C, T, N) ∧ k < N ∧ (∀ w ∈ u_ws C T N, w ∈ lw_tbl) ∧ (Cond.fieldLink own idx (T k).1 (T k).2.1 (T k).2.2.1 ∈ lw_tbl ∨ ∃ host, Cond.fieldLinkNest own idx (T k).1 (T k).2.1 (T k).2.2.1 host ∈ lw_tbl)
def am_FP (own : String) (idx ci k : Nat) (ty : FieldType) : Prop := ∃ (C : String) (T : u_T) (N : Nat) (tys : Nat → FieldType), vwCl[ci]? = some (C, T, N) ∧ k < N ∧ (∀ w ∈ u_ws C T N, w ∈ lw_tbl) ∧ (Cond.fieldLink own idx (T k).1 (T k).2.1 (T k).2.2.1 ∈ lw_tbl ∨ ∃ host, Cond.fieldLinkNest own idx (T k).1 (T k).2.1 (T k).2.2.1 host ∈ lw_tbl) ∧ (∀ k, k < N → parseFieldDescriptor (T k).2.2.1 = some (tys k)) ∧ (∀ a, a < N → ∀ b, b < N → a ≠ b → (T a).2.1 ≠ (T b).2.1) ∧ (T k).2.2.2 = false ∧ tys k = ty
theorem am_gf_spec {S : amS} {o ci k : Nat} {v : Value} (e : am_gf h S o ci k = some v) (hv : v ≠ .null) : ∃ tpl t, h[o]? = some (.inr (ci, tpl)) ∧ tpl[k]? = some t ∧ v = am_rd S o k t := by
  unfold am_gf at e
  rw [am_shp_get] at e
  cases hs : h[o]? with
  | none => rw [hs] at e; simp at e
  | some sh =>
    rw [hs] at e
    cases sh with
    | inl a => simp at e
    | inr a =>
      obtain ⟨c0, tpl⟩ := a
      by_cases hc : c0 = ci
      · subst hc
        simp at e
        refine ⟨tpl, am_ld tpl k, rfl, ?_, e.symm⟩
        refine am_ld_some rfl (fun z => ?_)
        rw [z] at e
        exact hv e.symm
      · have : Nat.beq c0 ci = false := am_bF hc
        simp [this] at e
theorem x_get {o idx ci k : Nat} {v : Value} (hd : decode M.2.1 pc = .ok (.getfield idx, 3)) (hl : am_FL M.1.cls idx ci k) (hv : am_gf h S o ci k = some v) (hn : v ≠ .null) (kk : X h M (pc + 3) loc (v :: st) S Q) : X h M pc loc (.ref o :: st) S Q := by
  intro p l e R s m args below meth c D ad ca H0 H locs ls QQ hC hL hP hS hr
  obtain ⟨hx, hb, hml, hown, hts, hK, inj, hfr, hlo⟩ := (show _ from hC)
  obtain ⟨tpl, t, e1, e2, e3⟩ := am_gf_spec hv hn
  obtain ⟨C, T, N, hc, hk, hin, hln⟩ := hl
  have he : (am_world h ad ca S)[o]? = some (ad o, .inr (ci, am_fs ad S o tpl)) := am_world_get e1
  have hf : (am_fs ad S o tpl)[k]? = some (am_cv ad v) := by rw [e3]; exact am_fs_get e2
  have hgo := kk p l e R s m args below meth c D ad ca H0 H locs ls QQ hC hL hP hS hr
  rcases hln with hln | ⟨host, hln⟩
  · exact va_get hx hb (hts.us hin args) (fun _ z => z) hown hK hP o he hc k hk (hts.at hln rfl args) (fun _ z => z) hf hd hgo
  · exact va_getN hx hb (hts.us hin args) (fun _ z => z) hown hK hP o he hc k hk (hts.at hln rfl args) (fun _ z => z) hf hd hgo
theorem x_put {o idx ci k : Nat} {ty : FieldType} {x y : Int32} (hd : decode M.2.1 pc = .ok (.putfield idx, 3)) (hl : am_FP M.1.cls idx ci k ty) (hv : am_gf h S o ci k = some (.int y)) (hn : narrow ty (.int x) = .int x) (hf : fits ty (.int x) = true) (kk : X h M (pc + 3) loc st (sF S o (upd (S.1 o) k x)) Q) : X h M pc loc (.int x :: .ref o :: st) S Q := by
  intro p l e R s m args below meth c D ad ca H0 H locs ls QQ hC hL hP hS hr
  obtain ⟨hx, hb, hml, hown, hts, hK, inj, hfr, hlo⟩ := (show _ from hC)
  obtain ⟨tpl, t, e1, e2, e3⟩ := am_gf_spec hv (by simp)
  obtain ⟨C, T, N, tys, hc, hk, hin, hln, hty, hnm, hfin, rfl⟩ := hl
  have he : (am_world h ad ca S)[o]? = some (ad o, .inr (ci, am_fs ad S o tpl)) := am_world_get e1
  obtain ⟨y', rfl⟩ : ∃ y', t = .int y' := by cases t <;> simp [am_rd] at e3 <;> exact ⟨_, rfl⟩
  have hw : am_world h ad ca (sF S o (upd (S.1 o) k x)) = (am_world h ad ca S).set o (ad o, .inr (ci, (am_fs ad S o tpl).set k (.int x))) := by
    rw [am_world_set e1 (fun j sh hj => am_cell_sF j sh hj)]
    simp only [am_cell, am_fs_sF e2]
  have hlen : k < (am_fs ad S o tpl).length := by simp [am_fs]; exact (List.getElem?_eq_some_iff.mp e2).1
  have hgo := fun (H1 : Heap) (locs1 : List Loc) (hP1 : va_P D vwCl ((am_world h ad ca S).set o (ad o, .inr (ci, (am_fs ad S o tpl).set k (.int x)))) H1) (_ : va_D (am_A h ad) ((am_world h ad ca S).set o (ad o, .inr (ci, (am_fs ad S o tpl).set k (.int x))))) (hS1 : va_S (am_A h ad) H0 H1 locs1) => kk p l e R s m args below meth c D ad ca H0 H1 locs1 ls QQ hC hL (by rw [hw]; exact hP1) hS1 hr
  rcases hln with hln | ⟨host, hln⟩
  · exact va_put hx hb (hts.us hin args) (fun _ z => z) tys hty hnm hown hK hP (am_D ca S inj) hS o he hc k hk (hts.at hln rfl args) (fun _ z => z) hfin (hty k hk) hn hf hlen hd hgo
  · exact va_putN hx hb (hts.us hin args) (fun _ z => z) tys hty hnm hown hK hP (am_D ca S inj) hS o he hc k hk (hts.at hln rfl args) (fun _ z => z) hfin (hty k hk) hn hf hlen hd hgo
theorem x_putl {o idx ci k : Nat} {x y : Int64} (hd : decode M.2.1 pc = .ok (.putfield idx, 3)) (hl : am_FP M.1.cls idx ci k .long) (hv : am_gf h S o ci k = some (.long y)) (kk : X h M (pc + 3) loc st (sG S o (vp_updL (S.2.2.1 o) k x)) Q) : X h M pc loc (.long x :: .ref o :: st) S Q := by
  intro p l e R s m args below meth c D ad ca H0 H locs ls QQ hC hL hP hS hr
  obtain ⟨hx, hb, hml, hown, hts, hK, inj, hfr, hlo⟩ := (show _ from hC)
  obtain ⟨tpl, t, e1, e2, e3⟩ := am_gf_spec hv (by simp)
  obtain ⟨C, T, N, tys, hc, hk, hin, hln, hty, hnm, hfin, hlo2⟩ := hl
  have he : (am_world h ad ca S)[o]? = some (ad o, .inr (ci, am_fs ad S o tpl)) := am_world_get e1
  obtain ⟨y', rfl⟩ : ∃ y', t = .long y' := by cases t <;> simp [am_rd] at e3 <;> exact ⟨_, rfl⟩
  have hw : am_world h ad ca (sG S o (vp_updL (S.2.2.1 o) k x)) = (am_world h ad ca S).set o (ad o, .inr (ci, (am_fs ad S o tpl).set k (.long x))) := by
    rw [am_world_set e1 (fun j sh hj => am_cell_sG j sh hj)]
    simp only [am_cell, am_fs_sG e2]
  have hlen : k < (am_fs ad S o tpl).length := by simp [am_fs]; exact (List.getElem?_eq_some_iff.mp e2).1
  have hgo := fun (H1 : Heap) (locs1 : List Loc) (hP1 : va_P D vwCl ((am_world h ad ca S).set o (ad o, .inr (ci, (am_fs ad S o tpl).set k (.long x)))) H1) (_ : va_D (am_A h ad) ((am_world h ad ca S).set o (ad o, .inr (ci, (am_fs ad S o tpl).set k (.long x))))) (hS1 : va_S (am_A h ad) H0 H1 locs1) => kk p l e R s m args below meth c D ad ca H0 H1 locs1 ls QQ hC hL (by rw [hw]; exact hP1) hS1 hr
  have hd1 : parseFieldDescriptor (T k).2.2.1 = some .long := by rw [← hlo2]; exact hty k hk
  rcases hln with hln | ⟨host, hln⟩
  · exact va_put hx hb (hts.us hin args) (fun _ z => z) tys hty hnm hown hK hP (am_D ca S inj) hS o he hc k hk (hts.at hln rfl args) (fun _ z => z) hfin hd1 rfl rfl hlen hd hgo
  · exact va_putN hx hb (hts.us hin args) (fun _ z => z) tys hty hnm hown hK hP (am_D ca S inj) hS o he hc k hk (hts.at hln rfl args) (fun _ z => z) hfin hd1 rfl rfl hlen hd hgo
theorem x_iald {ix n : Nat} {ids : List Nat} {i : Int32} (hd : decode M.2.1 pc = .ok (.iaload, 1)) (hs : am_shp h ix = some (.inl (n, .int, ids))) (hin : vp_in i n) (kk : X h M (pc + 1) loc (.int (S.2.1 ix i.toNatClampNeg) :: st) S Q) : X h M pc loc (.int i :: .ref ix :: st) S Q := by
  intro p l e R s m args below meth c D ad ca H0 H locs ls QQ hC hL hP hS hr
  obtain ⟨hx, hb, hml, hown, hts, hK, inj, hfr, hlo⟩ := (show _ from hC)
  rw [am_shp_get] at hs
  obtain ⟨t0, ht⟩ := am_tys_get (ca := ca) hs
  exact va_iald hx hb hK hP ix t0 (am_world_get hs) ht hin hd (kk p l e R s m args below meth c D ad ca H0 H locs ls QQ hC hL hP hS hr)
theorem x_bald {ix n : Nat} {ids : List Nat} {i : Int32} (hd : decode M.2.1 pc = .ok (.baload, 1)) (hs : am_shp h ix = some (.inl (n, .byte, ids))) (hin : vp_in i n) (kk : X h M (pc + 1) loc (.int (S.2.1 ix i.toNatClampNeg) :: st) S Q) : X h M pc loc (.int i :: .ref ix :: st) S Q := by
  intro p l e R s m args below meth c D ad ca H0 H locs ls QQ hC hL hP hS hr
  obtain ⟨hx, hb, hml, hown, hts, hK, inj, hfr, hlo⟩ := (show _ from hC)
  rw [am_shp_get] at hs
  obtain ⟨t0, ht⟩ := am_tys_get (ca := ca) hs
  exact va_bald hx hb hK hP ix t0 (am_world_get hs) ht hin hd (kk p l e R s m args below meth c D ad ca H0 H locs ls QQ hC hL hP hS hr)
theorem x_zald {ix n : Nat} {ids : List Nat} {i : Int32} (hd : decode M.2.1 pc = .ok (.baload, 1)) (hs : am_shp h ix = some (.inl (n, .boolean, ids))) (hin : vp_in i n) (kk : X h M (pc + 1) loc (.int (S.2.1 ix i.toNatClampNeg) :: st) S Q) : X h M pc loc (.int i :: .ref ix :: st) S Q := by
  intro p l e R s m args below meth c D ad ca H0 H locs ls QQ hC hL hP hS hr
  obtain ⟨hx, hb, hml, hown, hts, hK, inj, hfr, hlo⟩ := (show _ from hC)
  rw [am_shp_get] at hs
  obtain ⟨t0, ht⟩ := am_tys_get (ca := ca) hs
  exact va_zald hx hb hK hP ix t0 (am_world_get hs) ht hin hd (kk p l e R s m args below meth c D ad ca H0 H locs ls QQ hC hL hP hS hr)
theorem x_lald {ix n : Nat} {ids : List Nat} {i : Int32} (hd : decode M.2.1 pc = .ok (.laload, 1)) (hs : am_shp h ix = some (.inl (n, .long, ids))) (hin : vp_in i n) (kk : X h M (pc + 1) loc (.long (S.2.2.2 ix i.toNatClampNeg) :: st) S Q) : X h M pc loc (.int i :: .ref ix :: st) S Q := by
  intro p l e R s m args below meth c D ad ca H0 H locs ls QQ hC hL hP hS hr
  obtain ⟨hx, hb, hml, hown, hts, hK, inj, hfr, hlo⟩ := (show _ from hC)
  rw [am_shp_get] at hs
  obtain ⟨t0, ht⟩ := am_tys_get (ca := ca) hs
  exact va_lald hx hb hK hP ix t0 (am_world_get hs) ht hin hd (kk p l e R s m args below meth c D ad ca H0 H locs ls QQ hC hL hP hS hr)
theorem x_aald {ix n r : Nat} {C : String} {ids : List Nat} {i : Int32} (hd : decode M.2.1 pc = .ok (.aaload, 1)) (hs : am_shp h ix = some (.inl (n, .object C, ids))) (hin : vp_in i n) (hi : ids[i.toNatClampNeg]? = some r) (kk : X h M (pc + 1) loc (.ref r :: st) S Q) : X h M pc loc (.int i :: .ref ix :: st) S Q := by
  intro p l e R s m args below meth c D ad ca H0 H locs ls QQ hC hL hP hS hr
  obtain ⟨hx, hb, hml, hown, hts, hK, inj, hfr, hlo⟩ := (show _ from hC)
  rw [am_shp_get] at hs
  obtain ⟨t0, ht⟩ := am_tys_get (ca := ca) hs
  refine va_aldq hx hb hK hP ix t0 (am_world_get hs) ht hin hd ?_
  rw [hi]
  exact kk p l e R s m args below meth c D ad ca H0 H locs ls QQ hC hL hP hS hr
theorem x_alen {ix n : Nat} {ty : FieldType} {ids : List Nat} (hd : decode M.2.1 pc = .ok (.arraylength, 1)) (hs : am_shp h ix = some (.inl (n, ty, ids))) (kk : X h M (pc + 1) loc (.int (Int32.ofNat n) :: st) S Q) : X h M pc loc (.ref ix :: st) S Q := by
  intro p l e R s m args below meth c D ad ca H0 H locs ls QQ hC hL hP hS hr
  obtain ⟨hx, hb, hml, hown, hts, hK, inj, hfr, hlo⟩ := (show _ from hC)
  rw [am_shp_get] at hs
  obtain ⟨t0, ht⟩ := am_tys_get (ca := ca) hs
  exact va_alen hx hb hK hP ix t0 (am_world_get hs) ht rfl hd (kk p l e R s m args below meth c D ad ca H0 H locs ls QQ hC hL hP hS hr)
theorem x_iast {ix n : Nat} {ids : List Nat} {i x : Int32} (hd : decode M.2.1 pc = .ok (.iastore, 1)) (hs : am_shp h ix = some (.inl (n, .int, ids))) (hin : vp_in i n) (kk : X h M (pc + 1) loc st (sA S ix (upd (S.2.1 ix) i.toNatClampNeg (x))) Q) : X h M pc loc (.int x :: .int i :: .ref ix :: st) S Q := by
  intro p l e R s m args below meth c D ad ca H0 H locs ls QQ hC hL hP hS hr
  obtain ⟨hx, hb, hml, hown, hts, hK, inj, hfr, hlo⟩ := (show _ from hC)
  rw [am_shp_get] at hs
  obtain ⟨t0, ht⟩ := am_tys_get (ca := ca) hs
  refine va_iast hx hb hK hP (am_D ca S inj) hS ix t0 (am_world_get hs) ht hin hd (fun H1 locs1 hP1 _ hS1 => ?_)
  refine kk p l e R s m args below meth c D ad ca H0 H1 locs1 ls QQ hC hL ?_ hS1 hr
  rw [am_world_set hs (fun j sh hj => am_cell_sA j sh hj)]
  simpa only [am_cell, am_arr, sA, va_up_s] using hP1
theorem x_bast {ix n : Nat} {ids : List Nat} {i x : Int32} (hd : decode M.2.1 pc = .ok (.bastore, 1)) (hs : am_shp h ix = some (.inl (n, .byte, ids))) (hin : vp_in i n) (kk : X h M (pc + 1) loc st (sA S ix (upd (S.2.1 ix) i.toNatClampNeg (vp_nar .byte x))) Q) : X h M pc loc (.int x :: .int i :: .ref ix :: st) S Q := by
  intro p l e R s m args below meth c D ad ca H0 H locs ls QQ hC hL hP hS hr
  obtain ⟨hx, hb, hml, hown, hts, hK, inj, hfr, hlo⟩ := (show _ from hC)
  rw [am_shp_get] at hs
  obtain ⟨t0, ht⟩ := am_tys_get (ca := ca) hs
  refine va_bast hx hb hK hP (am_D ca S inj) hS ix t0 (am_world_get hs) ht hin hd (fun H1 locs1 hP1 _ hS1 => ?_)
  refine kk p l e R s m args below meth c D ad ca H0 H1 locs1 ls QQ hC hL ?_ hS1 hr
  rw [am_world_set hs (fun j sh hj => am_cell_sA j sh hj)]
  simpa only [am_cell, am_arr, sA, va_up_s] using hP1
theorem x_zast {ix n : Nat} {ids : List Nat} {i x : Int32} (hd : decode M.2.1 pc = .ok (.bastore, 1)) (hs : am_shp h ix = some (.inl (n, .boolean, ids))) (hin : vp_in i n) (kk : X h M (pc + 1) loc st (sA S ix (upd (S.2.1 ix) i.toNatClampNeg (vp_nar .boolean x))) Q) : X h M pc loc (.int x :: .int i :: .ref ix :: st) S Q := by
  intro p l e R s m args below meth c D ad ca H0 H locs ls QQ hC hL hP hS hr
  obtain ⟨hx, hb, hml, hown, hts, hK, inj, hfr, hlo⟩ := (show _ from hC)
  rw [am_shp_get] at hs
  obtain ⟨t0, ht⟩ := am_tys_get (ca := ca) hs
  refine va_zast hx hb hK hP (am_D ca S inj) hS ix t0 (am_world_get hs) ht hin hd (fun H1 locs1 hP1 _ hS1 => ?_)
  refine kk p l e R s m args below meth c D ad ca H0 H1 locs1 ls QQ hC hL ?_ hS1 hr
  rw [am_world_set hs (fun j sh hj => am_cell_sA j sh hj)]
  simpa only [am_cell, am_arr, sA, va_up_s] using hP1
theorem x_last {ix n : Nat} {ids : List Nat} {i : Int32} {x : Int64} (hd : decode M.2.1 pc = .ok (.lastore, 1)) (hs : am_shp h ix = some (.inl (n, .long, ids))) (hin : vp_in i n) (kk : X h M (pc + 1) loc st (sL S ix (vp_updL (S.2.2.2 ix) i.toNatClampNeg x)) Q) : X h M pc loc (.long x :: .int i :: .ref ix :: st) S Q := by
  intro p l e R s m args below meth c D ad ca H0 H locs ls QQ hC hL hP hS hr
  obtain ⟨hx, hb, hml, hown, hts, hK, inj, hfr, hlo⟩ := (show _ from hC)
  rw [am_shp_get] at hs
  obtain ⟨t0, ht⟩ := am_tys_get (ca := ca) hs
  refine va_last hx hb hK hP (am_D ca S inj) hS ix t0 (am_world_get hs) ht hin hd (fun H1 locs1 hP1 _ hS1 => ?_)
  refine kk p l e R s m args below meth c D ad ca H0 H1 locs1 ls QQ hC hL ?_ hS1 hr
  rw [am_world_set hs (fun j sh hj => am_cell_sL j sh hj)]
  simpa only [am_cell, am_arr, sL, va_up_s] using hP1
theorem x_copy {i0 i1 n0 n1 idx : Nat} {ids0 ids1 : List Nat} {sp dp n : Int32} (hd : decode M.2.1 pc = .ok (.invokestatic idx, 3)) (hlink : Cond.methodLink M.1.cls idx arraycopyName ∈ lw_tbl) (hnat : Cond.native arraycopyName ∈ lw_tbl) (hstat : Cond.static arraycopyName ∈ lw_tbl) (hini : Cond.initialized "java/lang/System" ∈ lw_tbl)
    (hs0 : am_shp h i0 = some (.inl (n0, .int, ids0))) (hs1 : am_shp h i1 = some (.inl (n1, .int, ids1))) (h1 : ¬ sp < 0) (h2 : ¬ dp < 0) (h3 : ¬ n < 0) (h4 : sp.toNatClampNeg + n.toNatClampNeg ≤ n0) (h5 : dp.toNatClampNeg + n.toNatClampNeg ≤ n1) (hf1 : 1 ≤ M.2.2.2.2.1) (hl1 : (st.map fun v => v.category).sum + (nativeFrameWords "java/lang/System" "arraycopy" 5 + 11) ≤ M.2.2.2.2.2)
    (kk : X h M (pc + 3) loc st (sA S i1 (va_cpy (S.2.1 i0) (S.2.1 i1) sp.toNatClampNeg dp.toNatClampNeg n.toNatClampNeg)) Q) : X h M pc loc (.int n :: .int dp :: .ref i1 :: .int sp :: .ref i0 :: st) S Q := by
  intro p l e R s m args below meth c D ad ca H0 H locs ls QQ hC hL hP hS hr
  obtain ⟨hx, hb, hml, hown, hts, hK, inj, hfr, hlo⟩ := (show _ from hC)
  rw [am_shp_get] at hs0 hs1
  obtain ⟨t0, ht0⟩ := am_tys_get (ca := ca) hs0
  obtain ⟨t1, ht1⟩ := am_tys_get (ca := ca) hs1
  have hst : ((st.map (am_cv ad)).map fun v => v.category).sum = (st.map fun v => v.category).sum := by
    rw [List.map_map]
    congr 2
    funext v
    exact am_cv_cat ad v
  refine va_copyi hx hb (hml.trans hL.1.symm) hown (hts.at hlink rfl args) (hts.at hnat rfl args) (hts.at hstat rfl args) (hts.at hini rfl args) hK hP (am_D ca S inj) hS i0 i1 t0 t1 (am_world_get hs0) (am_world_get hs1) ht0 ht1 rfl h1 h2 h3 h4 h5 (fun _ _ => rfl) (Nat.le_trans hf1 hfr) (by rw [hst]; exact Nat.le_trans hl1 hlo) hd (fun H1' locs1 hP1 _ hS1 => ?_)
  refine kk p l e R s m args below meth c D ad ca H0 H1' locs1 ls QQ hC hL ?_ hS1 hr
  rw [am_world_set hs1 (fun j sh hj => am_cell_sA j sh hj)]
  simpa only [am_cell, am_arr, sA, va_up_s] using hP1
end XR
