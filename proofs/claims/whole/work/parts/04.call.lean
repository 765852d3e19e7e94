/-! CALLS: a method's X from its entry is its contract, at every call -/
def am_nul : Nat → List Value
  | 0 => []
  | n + 1 => .null :: am_nul n
def am_ent : Nat → List Value → List Value
  | n, [] => am_nul n
  | n, .long x :: l => .long x :: .null :: am_ent (n - 2) l
  | n, v :: l => v :: am_ent (n - 1) l
def am_wd : List Value → Nat
  | [] => 0
  | v :: l => v.category + am_wd l
def am_push : Option Value → List Value → List Value
  | none, l => l
  | some v, l => v :: l
def am_kind (h : List amSh) (o : Nat) : Option Nat :=
  match am_shp h o with
  | some (.inr (c, _)) => some c
  | _ => none
def am_pk (v : Value) : Bool := match v with
  | .double _ => false
  | _ => true
def am_ws (M : amM) : List Cond := [Cond.code M.1 M.2.1 M.2.2.1 M.2.2.2.1]
def am_rm (M : amM) : Room := { frames := M.2.2.2.2.1, cells := 0, slots := 0, locals := M.2.2.2.2.2 }
def am_Pc (h : List amSh) (D : va_G) (ad : Nat → Nat) (ca : Nat → ClassId) (S : amS) (av : List Value) : Array Value → State → Prop := va_Pc (av.map (am_cv ad)) (fun U => va_P D vwCl (am_world h ad ca S) U.heap ∧ va_K D vwCl (am_tys h ca) U ∧ am_T U)
def am_Qc (h : List amSh) (D : va_G) (ad : Nat → Nat) (ca : Nat → ClassId) (Q : Option Value → amS → Prop) : Array Value → State → Outcome → State → Prop := fun _ st oc t => (∃ (v : Option Value) (S' : amS), oc = .returned (v.map (am_cv ad)) ∧ Q v S' ∧ va_P D vwCl (am_world h ad ca S') t.heap) ∧ va_F (am_A h ad) st t
theorem am_nul_get (n i : Nat) {v : Value} (h : (am_nul n)[i]? = some v) : v = .null := by
  induction n generalizing i with
  | zero => simp [am_nul] at h
  | succ n ih =>
    cases i with
    | zero => simp [am_nul] at h; exact h.symm
    | succ i => rw [am_nul, List.getElem?_cons_succ] at h; exact ih i h
theorem am_nul_len (n : Nat) : (am_nul n).length = n := by
  induction n with
  | zero => rfl
  | succ n ih => simp [am_nul, ih]
theorem am_ent_len : ∀ (av : List Value) (n : Nat), av.all am_pk = true → am_wd av ≤ n → (am_ent n av).length = n := by
  intro av
  induction av with
  | nil => intro n _ _; exact am_nul_len n
  | cons v l ih =>
    intro n hp h
    simp only [List.all_cons, Bool.and_eq_true] at hp
    cases v with
    | long x =>
      simp only [am_wd, Value.category] at h
      simp only [am_ent, List.length_cons, ih (n - 2) hp.2 (by omega)]
      omega
    | double x => simp [am_pk] at hp
    | _ =>
      simp only [am_wd, Value.category] at h
      simp only [am_ent, List.length_cons, ih (n - 1) hp.2 (by omega)]
      omega
theorem am_ent_mem (ad : Nat → Nat) : ∀ (av : List Value) (n j i : Nat) (v : Value), av.all am_pk = true → (am_ent n av)[i]? = some v → v ≠ .null → (j + i, am_cv ad v) ∈ lv_args j (av.map (am_cv ad)) := by
  intro av
  induction av with
  | nil => intro n j i v _ h hv; exact absurd (am_nul_get n i h) hv
  | cons u l ih =>
    intro n j i v hp h hv
    simp only [List.all_cons, Bool.and_eq_true] at hp
    have key : ∀ (n' : Nat), u.category = 1 → (u :: am_ent n' l)[i]? = some v → (j + i, am_cv ad v) ∈ lv_args j ((u :: l).map (am_cv ad)) := by
      intro n' hc hi
      simp only [List.map_cons, lv_args, am_cv_cat, hc]
      cases i with
      | zero =>
        simp only [List.getElem?_cons_zero, Option.some.injEq] at hi
        subst hi
        exact List.mem_cons_self
      | succ i =>
        rw [List.getElem?_cons_succ] at hi
        have := ih n' (j + 1) i v hp.2 hi hv
        rw [show j + 1 + i = j + (i + 1) by omega] at this
        exact List.mem_cons_of_mem _ (by simpa using this)
    cases u with
    | long x =>
      simp only [am_ent] at h
      simp only [List.map_cons, lv_args, am_cv_cat, Value.category]
      cases i with
      | zero =>
        simp only [List.getElem?_cons_zero, Option.some.injEq] at h
        subst h
        exact List.mem_cons_self
      | succ i =>
        cases i with
        | zero =>
          simp at h
          exact absurd h.symm hv
        | succ i =>
          rw [List.getElem?_cons_succ, List.getElem?_cons_succ] at h
          have := ih (n - 2) (j + 2) i v hp.2 h hv
          rw [show j + 2 + i = j + (i + 1 + 1) by omega] at this
          exact List.mem_cons_of_mem _ this
    | double x => simp [am_pk] at hp
    | _ => exact key (n - 1) rfl h
theorem am_sl_len (ad : Nat → Nat) : ∀ (av : List Value), (lg_sl (av.map (am_cv ad))).length = am_wd av := by
  intro av
  induction av with
  | nil => rfl
  | cons v l ih =>
    simp only [lg_sl, List.map_cons, List.flatMap_cons, List.length_append, am_cv_cat, am_wd] at ih ⊢
    rw [ih]
    rcases lv_cat v with hc | hc <;> simp [hc]
theorem am_L_ent {ad : Nat → Nat} {av : List Value} {n : Nat} (hp : av.all am_pk = true) (hw : am_wd av ≤ n) : am_L ad n (am_ent n av) ((lg_sl (av.map (am_cv ad)) ++ List.replicate (n - (lg_sl (av.map (am_cv ad))).length) Slot.unset).toArray) := by
  have hl := lv_entry (av.map (am_cv ad)) (n := n) (by rw [am_sl_len]; exact hw)
  refine ⟨hl.1, hl.2.1, am_ent_len av n hp hw, fun i v hi hv => ?_⟩
  have := hl.2.2 _ (am_ent_mem ad av n 0 i v hp hi hv)
  simpa using this
theorem am_met {h : List amSh} {M : amM} {av : List Value} {S : amS} {Q : Option Value → amS → Prop} (hX : X h M 0 (am_ent M.2.2.1 av) [] S Q) (hy : plainName M.1.cls = true) (hp : av.all am_pk = true) (hw : am_wd av ≤ M.2.2.1) (l : Launch) (D : va_G) (ad : Nat → Nat) (ca : Nat → ClassId) (inj : ∀ i j, i < h.length → j < h.length → ad i = ad j → i = j) :
    Met l M.1 (am_ws M) (am_rm M) (am_Pc h D ad ca S av) (am_Qc h D ad ca Q) 0 0 (am_A h ad) := by
  refine Met.ofW (cc := M.2.1) (maxL := M.2.2.1) (ret := M.2.2.2.1) hy rfl ?_
  intro p e s m args below meth c s₁ B hml hv
  obtain ⟨rfl, hP, hK, hts⟩ := hv
  have hown : s.vm.findClass M.1.cls = some m.cls := findClass_of_methodNamed B.named
  have hlocks := B.notSynchronized
  have hx := B.exec
  have hb := B.bytes
  have hr := B.returns
  rw [lg_entry_eq]
  refine hX p l e _ s m _ below meth c D ad ca s.heap s.heap [] _ _ ⟨hx, hb, hml, hown, hts, hK, inj, Nat.le_refl _, Nat.le_refl _⟩ (am_L_ent hp hw) hP va_S.rf ?_
  intro v S' H' locs' pc' ls' hq hR hP' hS'
  have hend : ∀ t : State, t.heap = H' → s.WarmedH t.vm → am_Qc h D ad ca Q (av.map (am_cv ad)).toArray s (.returned (v.map (am_cv ad))) t := fun t ht _ => ⟨⟨v, S', rfl, hq, by rw [ht]; exact hP'⟩, hS'.F ht⟩
  cases v with
  | none => exact W.vret hx hb (hr.trans hR.1) hend hS'.2.2 hR.2
  | some v =>
    cases v with
    | int x =>
      obtain ⟨ty, h1, h2, h3⟩ := hR
      exact W.zret hx hb (hr.trans h1) h2 hend hS'.2.2 h3
    | long x =>
      obtain ⟨h1, h2⟩ := hR
      exact W.lret hx hb (hr.trans h1) hend hS'.2.2 h2
    | ref x =>
      obtain ⟨rt, h1, h2, h3⟩ := hR
      exact W.aret hx hb (hr.trans h1) h2 (Or.inr ⟨_, rfl⟩) hend hS'.2.2 h3
    | _ => exact hR.elim
theorem am_blind {h : List amSh} {D : va_G} {ad : Nat → Nat} {ca : Nat → ClassId} {S : amS} {av : List Value} : FrameBlind (am_Pc h D ad ca S av) := by
  intro a U g mk q
  obtain ⟨q0, qP, qK, qT⟩ := q
  exact ⟨q0, qP, va_K.moved (u := U) (U := U.calling g mk a) (Vm.Alike.refl U.vm) qK, qT.same rfl⟩
theorem am_pre {h : List amSh} {D : va_G} {ad : Nat → Nat} {ca : Nat → ClassId} {S : amS} {av : List Value} {s : State} {H : Heap} (hP : va_P D vwCl (am_world h ad ca S) H) (hK : va_K D vwCl (am_tys h ca) s) (hT : am_T s) : PreS s H (am_Pc h D ad ca S av) (av.map (am_cv ad)) :=
  ⟨am_blind, fun U hU hW => ⟨rfl, by rw [hU]; exact hP, va_K.moved hW.alike hK, hT.warm hW⟩⟩
/-- behind a call, of any answer -/
theorem am_after {p : Program} {l : Launch} {e : Env} {R : Room} {s : State} {m : MethodId} {args : Array Value} {below : List Frame} {meth : Method} {c : Code} {H : Heap} {locs : List Loc} {cells slots : Nat} {QQ : State → Prop} {pc : Nat} {ls : Array Slot} {rest st0 : List Value} {a : Array Value} {A0 : Nat → Prop} {H0 : Heap} {h : List amSh} {D : va_G} {ad : Nat → Nat} {ca : Nat → ClassId} {Q : Option Value → amS → Prop}
    (hr : va_Run p l e R s m args below meth c H locs cells slots 0 0 (F0 m pc ls st0) rest (am_Qc h D ad ca Q a) (am_A h ad)) (hS : va_S A0 H0 H locs) (hA : ∀ q, am_A h ad q → A0 q)
    (kk : ∀ (v : Option Value) (S' : amS) (H1 : Heap) (locs1 : List Loc), Q v S' → va_P D vwCl (am_world h ad ca S') H1 → H.size ≤ H1.size → (∀ q : Nat, q < H.size → ¬ am_A h ad q → H1[q]? = H[q]?) → va_S A0 H0 H1 locs1 → W p l e R s m args below meth c H1 locs1 cells slots QQ (F0 m (pc + 3) ls ((v.map (am_cv ad)).toList ++ rest))) : W p l e R s m args below meth c H locs cells slots QQ (F0 m pc ls st0) := by
  intro T hT X0
  obtain ⟨v, st₀, t, T', L, h0, X', hL, e1, e2, ⟨⟨v1, S', hv, hp, hb⟩, hz, hk⟩, st⟩ := hr T hT X0
  cases hv
  rw [h0] at hz hk
  obtain ⟨t2, a1, b1⟩ := kk v1 S' T'.heap (locs ++ L) hp (by rw [e1]; exact hb) (by rw [e1]; exact hz) (fun q h1 h2 => by rw [e1]; exact hk q h1 h2)
    ⟨Nat.le_trans hS.1 (by rw [e1]; exact hz), fun q h1 h2 => by rw [e1, hk q (Nat.lt_of_lt_of_le h1 hS.1) (fun z => h2 (hA q z))]; exact hS.2.1 q h1 h2, fun q hq => by
      rcases List.mem_append.mp hq with h | h
      · exact hS.2.2 q h
      · exact hA _ (hL q h)⟩ T' rfl X'
  exact ⟨t2, st t2 a1, b1⟩
/-- the words of a method that is called: of an object of kind ci, with n arguments; static -/
def am_NV (N : amM) (ci n : Nat) : Prop := plainName N.1.cls = true ∧ Cond.code N.1 N.2.1 N.2.2.1 N.2.2.2.1 ∈ lw_tbl ∧ Cond.initialized N.1.cls ∈ lw_tbl ∧ (N.1.cls ≠ "java/lang/invoke/MethodHandle" ∧ N.1.cls ≠ "java/lang/invoke/VarHandle" ∧ (parseMethodDescriptor N.1.desc).map (fun d => d.parameters.length) = some n) ∧ Cond.instanceMethod N.1 ∈ lw_tbl ∧ Cond.selects N.1.cls N.1 N.1 ∈ lw_tbl ∧ ∃ (T : u_T) (k : Nat), vwCl[ci]? = some (N.1.cls, T, k)
def am_NS (N : amM) (n : Nat) : Prop := plainName N.1.cls = true ∧ Cond.code N.1 N.2.1 N.2.2.1 N.2.2.2.1 ∈ lw_tbl ∧ Cond.initialized N.1.cls ∈ lw_tbl ∧ (N.1.cls ≠ "java/lang/invoke/MethodHandle" ∧ N.1.cls ≠ "java/lang/invoke/VarHandle" ∧ (parseMethodDescriptor N.1.desc).map (fun d => d.parameters.length) = some n) ∧ Cond.static N.1 ∈ lw_tbl
def am_ok (M N : amM) (av rest : List Value) : Bool := Nat.ble (N.2.2.2.2.1 + 1) M.2.2.2.2.1 && (Nat.ble (8 + (N.2.2.1 + 11) + N.2.2.2.2.2) M.2.2.2.2.2 && (Nat.ble (am_wd rest) 8 && (Nat.ble (am_wd av) N.2.2.1 && av.all am_pk)))
theorem am_ok_spec {M N : amM} {av rest : List Value} (h : am_ok M N av rest = true) : N.2.2.2.2.1 + 1 ≤ M.2.2.2.2.1 ∧ 8 + (N.2.2.1 + 11) + N.2.2.2.2.2 ≤ M.2.2.2.2.2 ∧ am_wd rest ≤ 8 ∧ am_wd av ≤ N.2.2.1 ∧ av.all am_pk = true := by
  simp only [am_ok, Bool.and_eq_true] at h
  exact ⟨Nat.le_of_ble_eq_true h.1, Nat.le_of_ble_eq_true h.2.1, Nat.le_of_ble_eq_true h.2.2.1, Nat.le_of_ble_eq_true h.2.2.2.1, h.2.2.2.2⟩
theorem am_wd_sum (ad : Nat → Nat) (l : List Value) : ((l.map (am_cv ad)).map fun v => v.category).sum = am_wd l := by
  induction l with
  | nil => rfl
  | cons v l ih => simp only [List.map_cons, List.sum_cons, am_cv_cat, ih, am_wd]
theorem am_goodIn (N : amM) : GoodIn (am_ws N) (am_ws N) := by
  intro w hw
  refine ⟨hw, Or.inl ?_⟩
  rw [List.mem_singleton.mp hw]
  rfl
theorem am_wsT {N : amM} {s : State} {args : Array Value} (hT : am_T s) (hc : Cond.code N.1 N.2.1 N.2.2.1 N.2.2.2.1 ∈ lw_tbl) : ∀ w ∈ am_ws N, w.before args s = true := by
  intro w hw
  rw [List.mem_singleton.mp hw]
  exact hT.at hc rfl args
theorem am_push_cv (ad : Nat → Nat) (v : Option Value) (rest : List Value) : (v.map (am_cv ad)).toList ++ rest.map (am_cv ad) = (am_push v rest).map (am_cv ad) := by cases v <;> rfl
section XC
variable {h : List amSh} {M N : amM} {pc idx n : Nat} {loc rest : List Value} {S : amS} {Q Q' : Option Value → amS → Prop}
theorem x_callV {o ci : Nat} (As : List Value) (hd : decode M.2.1 pc = .ok (.invokevirtual idx, 3)) (hl : Cond.methodLink M.1.cls idx N.1 ∈ lw_tbl) (hN : am_NV N ci n) (hs : am_kind h o = some ci) (hn : As.length = n) (hok : am_ok M N (.ref o :: As) rest = true) (hX : X h N 0 (am_ent N.2.2.1 (.ref o :: As)) [] S Q') (kk : ∀ v S', Q' v S' → X h M (pc + 3) loc (am_push v rest) S' Q) : X h M pc loc (As.reverse ++ .ref o :: rest) S Q := by
  intro p l e R s m args below meth c D ad ca H0 H locs ls QQ hC hL hP hS hr
  obtain ⟨hx, hb, hml, hown, hts, hK, inj, hfr, hlo⟩ := (show _ from hC)
  obtain ⟨hy, hcode, hini, hnm, hin, hsel, T, k, hcl⟩ := hN
  obtain ⟨o1, o2, o3, o4, o5⟩ := am_ok_spec hok
  have hM := am_met hX hy o5 o4 l D ad ca inj
  have hB : CallB R s args M.1.cls idx N.1 N.2.1 N.2.2.1 N.2.2.2.1 (am_ws N) (am_rm N) 0 0 n := callB_of n (am_wsT hts hcode) (am_goodIn N) rfl rfl rfl (hts.at hini rfl args) (hts.at hl rfl args) hnm ⟨Nat.le_trans o1 hfr, Nat.le_trans o2 hlo⟩
  obtain ⟨tpl, hsh⟩ : ∃ tpl, h[o]? = some (.inr (ci, tpl)) := by
    unfold am_kind at hs
    rw [am_shp_get] at hs
    cases e1 : h[o]? with
    | none => rw [e1] at hs; cases hs
    | some sh =>
      rw [e1] at hs
      cases sh with
      | inl a => cases hs
      | inr a => cases hs; exact ⟨a.2, rfl⟩
  have hpre : PreV s H N.1.cls (ad o) (am_Pc h D ad ca S (.ref o :: As)) (As.map (am_cv ad)) := ⟨am_blind, va_recv hK hP (ci := ci) (q0 := o) hcl (am_world_get hsh), (am_pre hP hK hts).2⟩
  have hrun := va_runV (As := As.map (am_cv ad)) (rest := rest.map (am_cv ad)) (g := F0 m pc ls ((As.reverse ++ .ref o :: rest).map (am_cv ad))) (locs := locs) (cells := 0) (slots := 0) (e := e) (below := below) (meth := meth) (Ts := []) ⟨hx, hb, hml, hown, fun _ z => absurd z List.not_mem_nil⟩ hM ⟨hB, hts.at hin rfl args, hts.at hsel rfl args⟩ hpre rfl (by rw [List.length_map]; exact hn) hL.1 (by simp [am_cv, List.map_append, List.map_reverse]) (lv_room (by rw [am_wd_sum]; exact o3)) hd ⟨Nat.zero_le _, Nat.zero_le _⟩
  refine am_after hrun hS (fun _ z => z) (fun v S' H1 locs1 hq hP1 _ _ hS1 => ?_)
  rw [am_push_cv]
  exact kk v S' hq p l e R s m args below meth c D ad ca H0 H1 locs1 ls QQ hC hL hP1 hS1 hr
theorem x_callS (As : List Value) (hd : decode M.2.1 pc = .ok (.invokestatic idx, 3)) (hl : Cond.methodLink M.1.cls idx N.1 ∈ lw_tbl) (hN : am_NS N n) (hn : As.length = n) (hok : am_ok M N As rest = true) (hX : X h N 0 (am_ent N.2.2.1 As) [] S Q') (kk : ∀ v S', Q' v S' → X h M (pc + 3) loc (am_push v rest) S' Q) : X h M pc loc (As.reverse ++ rest) S Q := by
  intro p l e R s m args below meth c D ad ca H0 H locs ls QQ hC hL hP hS hr
  obtain ⟨hx, hb, hml, hown, hts, hK, inj, hfr, hlo⟩ := (show _ from hC)
  obtain ⟨hy, hcode, hini, hnm, hst⟩ := hN
  obtain ⟨o1, o2, o3, o4, o5⟩ := am_ok_spec hok
  have hM := am_met hX hy o5 o4 l D ad ca inj
  have hB : CallB R s args M.1.cls idx N.1 N.2.1 N.2.2.1 N.2.2.2.1 (am_ws N) (am_rm N) 0 0 n := callB_of n (am_wsT hts hcode) (am_goodIn N) rfl rfl rfl (hts.at hini rfl args) (hts.at hl rfl args) hnm ⟨Nat.le_trans o1 hfr, Nat.le_trans o2 hlo⟩
  have hrun := va_runS (As := As.map (am_cv ad)) (rest := rest.map (am_cv ad)) (g := F0 m pc ls ((As.reverse ++ rest).map (am_cv ad))) (locs := locs) (cells := 0) (slots := 0) (e := e) (below := below) (meth := meth) (Ts := []) ⟨hx, hb, hml, hown, fun _ z => absurd z List.not_mem_nil⟩ hM ⟨hB, hts.at hst rfl args⟩ (am_pre hP hK hts) rfl (by rw [List.length_map]; exact hn) hL.1 (by simp [List.map_append, List.map_reverse]) (lv_room (by rw [am_wd_sum]; exact o3)) hd ⟨Nat.zero_le _, Nat.zero_le _⟩
  refine am_after hrun hS (fun _ z => z) (fun v S' H1 locs1 hq hP1 _ _ hS1 => ?_)
  rw [am_push_cv]
  exact kk v S' hq p l e R s m args below meth c D ad ca H0 H1 locs1 ls QQ hC hL hP1 hS1 hr
theorem x_v0 {o ci : Nat} (hd : decode M.2.1 pc = .ok (.invokevirtual idx, 3)) (hl : Cond.methodLink M.1.cls idx N.1 ∈ lw_tbl) (hN : am_NV N ci 0) (hs : am_kind h o = some ci) (hok : am_ok M N (.ref o :: []) rest = true) (hX : X h N 0 (am_ent N.2.2.1 (.ref o :: [])) [] S Q') (kk : ∀ v S', Q' v S' → X h M (pc + 3) loc (am_push v rest) S' Q) : X h M pc loc (.ref o :: rest) S Q := x_callV [] hd hl hN hs rfl hok hX kk
theorem x_v1 {o ci : Nat} {a0 : Value} (hd : decode M.2.1 pc = .ok (.invokevirtual idx, 3)) (hl : Cond.methodLink M.1.cls idx N.1 ∈ lw_tbl) (hN : am_NV N ci 1) (hs : am_kind h o = some ci) (hok : am_ok M N (.ref o :: [a0]) rest = true) (hX : X h N 0 (am_ent N.2.2.1 (.ref o :: [a0])) [] S Q') (kk : ∀ v S', Q' v S' → X h M (pc + 3) loc (am_push v rest) S' Q) : X h M pc loc (a0 :: .ref o :: rest) S Q := x_callV [a0] hd hl hN hs rfl hok hX kk
theorem x_v2 {o ci : Nat} {a0 a1 : Value} (hd : decode M.2.1 pc = .ok (.invokevirtual idx, 3)) (hl : Cond.methodLink M.1.cls idx N.1 ∈ lw_tbl) (hN : am_NV N ci 2) (hs : am_kind h o = some ci) (hok : am_ok M N (.ref o :: [a0, a1]) rest = true) (hX : X h N 0 (am_ent N.2.2.1 (.ref o :: [a0, a1])) [] S Q') (kk : ∀ v S', Q' v S' → X h M (pc + 3) loc (am_push v rest) S' Q) : X h M pc loc (a1 :: a0 :: .ref o :: rest) S Q := x_callV [a0, a1] hd hl hN hs rfl hok hX kk
theorem x_v3 {o ci : Nat} {a0 a1 a2 : Value} (hd : decode M.2.1 pc = .ok (.invokevirtual idx, 3)) (hl : Cond.methodLink M.1.cls idx N.1 ∈ lw_tbl) (hN : am_NV N ci 3) (hs : am_kind h o = some ci) (hok : am_ok M N (.ref o :: [a0, a1, a2]) rest = true) (hX : X h N 0 (am_ent N.2.2.1 (.ref o :: [a0, a1, a2])) [] S Q') (kk : ∀ v S', Q' v S' → X h M (pc + 3) loc (am_push v rest) S' Q) : X h M pc loc (a2 :: a1 :: a0 :: .ref o :: rest) S Q := x_callV [a0, a1, a2] hd hl hN hs rfl hok hX kk
theorem x_v4 {o ci : Nat} {a0 a1 a2 a3 : Value} (hd : decode M.2.1 pc = .ok (.invokevirtual idx, 3)) (hl : Cond.methodLink M.1.cls idx N.1 ∈ lw_tbl) (hN : am_NV N ci 4) (hs : am_kind h o = some ci) (hok : am_ok M N (.ref o :: [a0, a1, a2, a3]) rest = true) (hX : X h N 0 (am_ent N.2.2.1 (.ref o :: [a0, a1, a2, a3])) [] S Q') (kk : ∀ v S', Q' v S' → X h M (pc + 3) loc (am_push v rest) S' Q) : X h M pc loc (a3 :: a2 :: a1 :: a0 :: .ref o :: rest) S Q := x_callV [a0, a1, a2, a3] hd hl hN hs rfl hok hX kk
theorem x_v5 {o ci : Nat} {a0 a1 a2 a3 a4 : Value} (hd : decode M.2.1 pc = .ok (.invokevirtual idx, 3)) (hl : Cond.methodLink M.1.cls idx N.1 ∈ lw_tbl) (hN : am_NV N ci 5) (hs : am_kind h o = some ci) (hok : am_ok M N (.ref o :: [a0, a1, a2, a3, a4]) rest = true) (hX : X h N 0 (am_ent N.2.2.1 (.ref o :: [a0, a1, a2, a3, a4])) [] S Q') (kk : ∀ v S', Q' v S' → X h M (pc + 3) loc (am_push v rest) S' Q) : X h M pc loc (a4 :: a3 :: a2 :: a1 :: a0 :: .ref o :: rest) S Q := x_callV [a0, a1, a2, a3, a4] hd hl hN hs rfl hok hX kk
theorem x_s1 {a0 : Value} (hd : decode M.2.1 pc = .ok (.invokestatic idx, 3)) (hl : Cond.methodLink M.1.cls idx N.1 ∈ lw_tbl) (hN : am_NS N 1) (hok : am_ok M N [a0] rest = true) (hX : X h N 0 (am_ent N.2.2.1 [a0]) [] S Q') (kk : ∀ v S', Q' v S' → X h M (pc + 3) loc (am_push v rest) S' Q) : X h M pc loc (a0 :: rest) S Q := x_callS [a0] hd hl hN rfl hok hX kk
theorem x_s2 {a0 a1 : Value} (hd : decode M.2.1 pc = .ok (.invokestatic idx, 3)) (hl : Cond.methodLink M.1.cls idx N.1 ∈ lw_tbl) (hN : am_NS N 2) (hok : am_ok M N [a0, a1] rest = true) (hX : X h N 0 (am_ent N.2.2.1 [a0, a1]) [] S Q') (kk : ∀ v S', Q' v S' → X h M (pc + 3) loc (am_push v rest) S' Q) : X h M pc loc (a1 :: a0 :: rest) S Q := x_callS [a0, a1] hd hl hN rfl hok hX kk
theorem x_s3 {a0 a1 a2 : Value} (hd : decode M.2.1 pc = .ok (.invokestatic idx, 3)) (hl : Cond.methodLink M.1.cls idx N.1 ∈ lw_tbl) (hN : am_NS N 3) (hok : am_ok M N [a0, a1, a2] rest = true) (hX : X h N 0 (am_ent N.2.2.1 [a0, a1, a2]) [] S Q') (kk : ∀ v S', Q' v S' → X h M (pc + 3) loc (am_push v rest) S' Q) : X h M pc loc (a2 :: a1 :: a0 :: rest) S Q := x_callS [a0, a1, a2] hd hl hN rfl hok hX kk
theorem x_s4 {a0 a1 a2 a3 : Value} (hd : decode M.2.1 pc = .ok (.invokestatic idx, 3)) (hl : Cond.methodLink M.1.cls idx N.1 ∈ lw_tbl) (hN : am_NS N 4) (hok : am_ok M N [a0, a1, a2, a3] rest = true) (hX : X h N 0 (am_ent N.2.2.1 [a0, a1, a2, a3]) [] S Q') (kk : ∀ v S', Q' v S' → X h M (pc + 3) loc (am_push v rest) S' Q) : X h M pc loc (a3 :: a2 :: a1 :: a0 :: rest) S Q := x_callS [a0, a1, a2, a3] hd hl hN rfl hok hX kk
theorem x_v0d {o ci : Nat} {r : Value} {S1 : amS} (hd : decode M.2.1 pc = .ok (.invokevirtual idx, 3)) (hl : Cond.methodLink M.1.cls idx N.1 ∈ lw_tbl) (hN : am_NV N ci 0) (hs : am_kind h o = some ci) (hok : am_ok M N (.ref o :: []) rest = true) (hX : X h N 0 (am_ent N.2.2.1 (.ref o :: [])) [] S (fun v S' => v = some r ∧ S' = S1)) (kk : X h M (pc + 3) loc (r :: rest) S1 Q) : X h M pc loc (.ref o :: rest) S Q := x_v0 hd hl hN hs hok hX (fun v S' e => by obtain ⟨e1, e2⟩ := e; rw [e1, e2]; exact kk)
theorem x_v0n {o ci : Nat} {S1 : amS} (hd : decode M.2.1 pc = .ok (.invokevirtual idx, 3)) (hl : Cond.methodLink M.1.cls idx N.1 ∈ lw_tbl) (hN : am_NV N ci 0) (hs : am_kind h o = some ci) (hok : am_ok M N (.ref o :: []) rest = true) (hX : X h N 0 (am_ent N.2.2.1 (.ref o :: [])) [] S (fun v S' => v = none ∧ S' = S1)) (kk : X h M (pc + 3) loc rest S1 Q) : X h M pc loc (.ref o :: rest) S Q := x_v0 hd hl hN hs hok hX (fun v S' e => by obtain ⟨e1, e2⟩ := e; rw [e1, e2]; exact kk)
theorem x_v1d {o ci : Nat} {a0 : Value} {r : Value} {S1 : amS} (hd : decode M.2.1 pc = .ok (.invokevirtual idx, 3)) (hl : Cond.methodLink M.1.cls idx N.1 ∈ lw_tbl) (hN : am_NV N ci 1) (hs : am_kind h o = some ci) (hok : am_ok M N (.ref o :: [a0]) rest = true) (hX : X h N 0 (am_ent N.2.2.1 (.ref o :: [a0])) [] S (fun v S' => v = some r ∧ S' = S1)) (kk : X h M (pc + 3) loc (r :: rest) S1 Q) : X h M pc loc (a0 :: .ref o :: rest) S Q := x_v1 hd hl hN hs hok hX (fun v S' e => by obtain ⟨e1, e2⟩ := e; rw [e1, e2]; exact kk)
theorem x_v1n {o ci : Nat} {a0 : Value} {S1 : amS} (hd : decode M.2.1 pc = .ok (.invokevirtual idx, 3)) (hl : Cond.methodLink M.1.cls idx N.1 ∈ lw_tbl) (hN : am_NV N ci 1) (hs : am_kind h o = some ci) (hok : am_ok M N (.ref o :: [a0]) rest = true) (hX : X h N 0 (am_ent N.2.2.1 (.ref o :: [a0])) [] S (fun v S' => v = none ∧ S' = S1)) (kk : X h M (pc + 3) loc rest S1 Q) : X h M pc loc (a0 :: .ref o :: rest) S Q := x_v1 hd hl hN hs hok hX (fun v S' e => by obtain ⟨e1, e2⟩ := e; rw [e1, e2]; exact kk)
theorem x_v2d {o ci : Nat} {a0 a1 : Value} {r : Value} {S1 : amS} (hd : decode M.2.1 pc = .ok (.invokevirtual idx, 3)) (hl : Cond.methodLink M.1.cls idx N.1 ∈ lw_tbl) (hN : am_NV N ci 2) (hs : am_kind h o = some ci) (hok : am_ok M N (.ref o :: [a0, a1]) rest = true) (hX : X h N 0 (am_ent N.2.2.1 (.ref o :: [a0, a1])) [] S (fun v S' => v = some r ∧ S' = S1)) (kk : X h M (pc + 3) loc (r :: rest) S1 Q) : X h M pc loc (a1 :: a0 :: .ref o :: rest) S Q := x_v2 hd hl hN hs hok hX (fun v S' e => by obtain ⟨e1, e2⟩ := e; rw [e1, e2]; exact kk)
theorem x_v2n {o ci : Nat} {a0 a1 : Value} {S1 : amS} (hd : decode M.2.1 pc = .ok (.invokevirtual idx, 3)) (hl : Cond.methodLink M.1.cls idx N.1 ∈ lw_tbl) (hN : am_NV N ci 2) (hs : am_kind h o = some ci) (hok : am_ok M N (.ref o :: [a0, a1]) rest = true) (hX : X h N 0 (am_ent N.2.2.1 (.ref o :: [a0, a1])) [] S (fun v S' => v = none ∧ S' = S1)) (kk : X h M (pc + 3) loc rest S1 Q) : X h M pc loc (a1 :: a0 :: .ref o :: rest) S Q := x_v2 hd hl hN hs hok hX (fun v S' e => by obtain ⟨e1, e2⟩ := e; rw [e1, e2]; exact kk)
theorem x_v3d {o ci : Nat} {a0 a1 a2 : Value} {r : Value} {S1 : amS} (hd : decode M.2.1 pc = .ok (.invokevirtual idx, 3)) (hl : Cond.methodLink M.1.cls idx N.1 ∈ lw_tbl) (hN : am_NV N ci 3) (hs : am_kind h o = some ci) (hok : am_ok M N (.ref o :: [a0, a1, a2]) rest = true) (hX : X h N 0 (am_ent N.2.2.1 (.ref o :: [a0, a1, a2])) [] S (fun v S' => v = some r ∧ S' = S1)) (kk : X h M (pc + 3) loc (r :: rest) S1 Q) : X h M pc loc (a2 :: a1 :: a0 :: .ref o :: rest) S Q := x_v3 hd hl hN hs hok hX (fun v S' e => by obtain ⟨e1, e2⟩ := e; rw [e1, e2]; exact kk)
theorem x_v3n {o ci : Nat} {a0 a1 a2 : Value} {S1 : amS} (hd : decode M.2.1 pc = .ok (.invokevirtual idx, 3)) (hl : Cond.methodLink M.1.cls idx N.1 ∈ lw_tbl) (hN : am_NV N ci 3) (hs : am_kind h o = some ci) (hok : am_ok M N (.ref o :: [a0, a1, a2]) rest = true) (hX : X h N 0 (am_ent N.2.2.1 (.ref o :: [a0, a1, a2])) [] S (fun v S' => v = none ∧ S' = S1)) (kk : X h M (pc + 3) loc rest S1 Q) : X h M pc loc (a2 :: a1 :: a0 :: .ref o :: rest) S Q := x_v3 hd hl hN hs hok hX (fun v S' e => by obtain ⟨e1, e2⟩ := e; rw [e1, e2]; exact kk)
theorem x_v4d {o ci : Nat} {a0 a1 a2 a3 : Value} {r : Value} {S1 : amS} (hd : decode M.2.1 pc = .ok (.invokevirtual idx, 3)) (hl : Cond.methodLink M.1.cls idx N.1 ∈ lw_tbl) (hN : am_NV N ci 4) (hs : am_kind h o = some ci) (hok : am_ok M N (.ref o :: [a0, a1, a2, a3]) rest = true) (hX : X h N 0 (am_ent N.2.2.1 (.ref o :: [a0, a1, a2, a3])) [] S (fun v S' => v = some r ∧ S' = S1)) (kk : X h M (pc + 3) loc (r :: rest) S1 Q) : X h M pc loc (a3 :: a2 :: a1 :: a0 :: .ref o :: rest) S Q := x_v4 hd hl hN hs hok hX (fun v S' e => by obtain ⟨e1, e2⟩ := e; rw [e1, e2]; exact kk)
theorem x_v4n {o ci : Nat} {a0 a1 a2 a3 : Value} {S1 : amS} (hd : decode M.2.1 pc = .ok (.invokevirtual idx, 3)) (hl : Cond.methodLink M.1.cls idx N.1 ∈ lw_tbl) (hN : am_NV N ci 4) (hs : am_kind h o = some ci) (hok : am_ok M N (.ref o :: [a0, a1, a2, a3]) rest = true) (hX : X h N 0 (am_ent N.2.2.1 (.ref o :: [a0, a1, a2, a3])) [] S (fun v S' => v = none ∧ S' = S1)) (kk : X h M (pc + 3) loc rest S1 Q) : X h M pc loc (a3 :: a2 :: a1 :: a0 :: .ref o :: rest) S Q := x_v4 hd hl hN hs hok hX (fun v S' e => by obtain ⟨e1, e2⟩ := e; rw [e1, e2]; exact kk)
theorem x_v5d {o ci : Nat} {a0 a1 a2 a3 a4 : Value} {r : Value} {S1 : amS} (hd : decode M.2.1 pc = .ok (.invokevirtual idx, 3)) (hl : Cond.methodLink M.1.cls idx N.1 ∈ lw_tbl) (hN : am_NV N ci 5) (hs : am_kind h o = some ci) (hok : am_ok M N (.ref o :: [a0, a1, a2, a3, a4]) rest = true) (hX : X h N 0 (am_ent N.2.2.1 (.ref o :: [a0, a1, a2, a3, a4])) [] S (fun v S' => v = some r ∧ S' = S1)) (kk : X h M (pc + 3) loc (r :: rest) S1 Q) : X h M pc loc (a4 :: a3 :: a2 :: a1 :: a0 :: .ref o :: rest) S Q := x_v5 hd hl hN hs hok hX (fun v S' e => by obtain ⟨e1, e2⟩ := e; rw [e1, e2]; exact kk)
theorem x_v5n {o ci : Nat} {a0 a1 a2 a3 a4 : Value} {S1 : amS} (hd : decode M.2.1 pc = .ok (.invokevirtual idx, 3)) (hl : Cond.methodLink M.1.cls idx N.1 ∈ lw_tbl) (hN : am_NV N ci 5) (hs : am_kind h o = some ci) (hok : am_ok M N (.ref o :: [a0, a1, a2, a3, a4]) rest = true) (hX : X h N 0 (am_ent N.2.2.1 (.ref o :: [a0, a1, a2, a3, a4])) [] S (fun v S' => v = none ∧ S' = S1)) (kk : X h M (pc + 3) loc rest S1 Q) : X h M pc loc (a4 :: a3 :: a2 :: a1 :: a0 :: .ref o :: rest) S Q := x_v5 hd hl hN hs hok hX (fun v S' e => by obtain ⟨e1, e2⟩ := e; rw [e1, e2]; exact kk)
theorem x_s1d {a0 : Value} {r : Value} {S1 : amS} (hd : decode M.2.1 pc = .ok (.invokestatic idx, 3)) (hl : Cond.methodLink M.1.cls idx N.1 ∈ lw_tbl) (hN : am_NS N 1) (hok : am_ok M N [a0] rest = true) (hX : X h N 0 (am_ent N.2.2.1 [a0]) [] S (fun v S' => v = some r ∧ S' = S1)) (kk : X h M (pc + 3) loc (r :: rest) S1 Q) : X h M pc loc (a0 :: rest) S Q := x_s1 hd hl hN hok hX (fun v S' e => by obtain ⟨e1, e2⟩ := e; rw [e1, e2]; exact kk)
theorem x_s1n {a0 : Value} {S1 : amS} (hd : decode M.2.1 pc = .ok (.invokestatic idx, 3)) (hl : Cond.methodLink M.1.cls idx N.1 ∈ lw_tbl) (hN : am_NS N 1) (hok : am_ok M N [a0] rest = true) (hX : X h N 0 (am_ent N.2.2.1 [a0]) [] S (fun v S' => v = none ∧ S' = S1)) (kk : X h M (pc + 3) loc rest S1 Q) : X h M pc loc (a0 :: rest) S Q := x_s1 hd hl hN hok hX (fun v S' e => by obtain ⟨e1, e2⟩ := e; rw [e1, e2]; exact kk)
theorem x_s2d {a0 a1 : Value} {r : Value} {S1 : amS} (hd : decode M.2.1 pc = .ok (.invokestatic idx, 3)) (hl : Cond.methodLink M.1.cls idx N.1 ∈ lw_tbl) (hN : am_NS N 2) (hok : am_ok M N [a0, a1] rest = true) (hX : X h N 0 (am_ent N.2.2.1 [a0, a1]) [] S (fun v S' => v = some r ∧ S' = S1)) (kk : X h M (pc + 3) loc (r :: rest) S1 Q) : X h M pc loc (a1 :: a0 :: rest) S Q := x_s2 hd hl hN hok hX (fun v S' e => by obtain ⟨e1, e2⟩ := e; rw [e1, e2]; exact kk)
theorem x_s2n {a0 a1 : Value} {S1 : amS} (hd : decode M.2.1 pc = .ok (.invokestatic idx, 3)) (hl : Cond.methodLink M.1.cls idx N.1 ∈ lw_tbl) (hN : am_NS N 2) (hok : am_ok M N [a0, a1] rest = true) (hX : X h N 0 (am_ent N.2.2.1 [a0, a1]) [] S (fun v S' => v = none ∧ S' = S1)) (kk : X h M (pc + 3) loc rest S1 Q) : X h M pc loc (a1 :: a0 :: rest) S Q := x_s2 hd hl hN hok hX (fun v S' e => by obtain ⟨e1, e2⟩ := e; rw [e1, e2]; exact kk)
theorem x_s3d {a0 a1 a2 : Value} {r : Value} {S1 : amS} (hd : decode M.2.1 pc = .ok (.invokestatic idx, 3)) (hl : Cond.methodLink M.1.cls idx N.1 ∈ lw_tbl) (hN : am_NS N 3) (hok : am_ok M N [a0, a1, a2] rest = true) (hX : X h N 0 (am_ent N.2.2.1 [a0, a1, a2]) [] S (fun v S' => v = some r ∧ S' = S1)) (kk : X h M (pc + 3) loc (r :: rest) S1 Q) : X h M pc loc (a2 :: a1 :: a0 :: rest) S Q := x_s3 hd hl hN hok hX (fun v S' e => by obtain ⟨e1, e2⟩ := e; rw [e1, e2]; exact kk)
theorem x_s3n {a0 a1 a2 : Value} {S1 : amS} (hd : decode M.2.1 pc = .ok (.invokestatic idx, 3)) (hl : Cond.methodLink M.1.cls idx N.1 ∈ lw_tbl) (hN : am_NS N 3) (hok : am_ok M N [a0, a1, a2] rest = true) (hX : X h N 0 (am_ent N.2.2.1 [a0, a1, a2]) [] S (fun v S' => v = none ∧ S' = S1)) (kk : X h M (pc + 3) loc rest S1 Q) : X h M pc loc (a2 :: a1 :: a0 :: rest) S Q := x_s3 hd hl hN hok hX (fun v S' e => by obtain ⟨e1, e2⟩ := e; rw [e1, e2]; exact kk)
theorem x_s4d {a0 a1 a2 a3 : Value} {r : Value} {S1 : amS} (hd : decode M.2.1 pc = .ok (.invokestatic idx, 3)) (hl : Cond.methodLink M.1.cls idx N.1 ∈ lw_tbl) (hN : am_NS N 4) (hok : am_ok M N [a0, a1, a2, a3] rest = true) (hX : X h N 0 (am_ent N.2.2.1 [a0, a1, a2, a3]) [] S (fun v S' => v = some r ∧ S' = S1)) (kk : X h M (pc + 3) loc (r :: rest) S1 Q) : X h M pc loc (a3 :: a2 :: a1 :: a0 :: rest) S Q := x_s4 hd hl hN hok hX (fun v S' e => by obtain ⟨e1, e2⟩ := e; rw [e1, e2]; exact kk)
theorem x_s4n {a0 a1 a2 a3 : Value} {S1 : amS} (hd : decode M.2.1 pc = .ok (.invokestatic idx, 3)) (hl : Cond.methodLink M.1.cls idx N.1 ∈ lw_tbl) (hN : am_NS N 4) (hok : am_ok M N [a0, a1, a2, a3] rest = true) (hX : X h N 0 (am_ent N.2.2.1 [a0, a1, a2, a3]) [] S (fun v S' => v = none ∧ S' = S1)) (kk : X h M (pc + 3) loc rest S1 Q) : X h M pc loc (a3 :: a2 :: a1 :: a0 :: rest) S Q := x_s4 hd hl hN hok hX (fun v S' e => by obtain ⟨e1, e2⟩ := e; rw [e1, e2]; exact kk)
end XC
