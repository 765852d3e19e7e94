/-! CONSTRUCTORS: the judgement Y (from here the constructor comes to its end, with Bk of the cells that it leaves), and its rows -/
def ct_isX : Cond → Bool
  | .methodLinkNest .. => true
  | .arrayClass .. => true
  | .arrayOver (.object _) => true
  | _ => false
theorem ct_ac {ty : FieldType} {args args' : Array Value} {s U : State} (hal : s.vm.Alike U.vm) (h : (Cond.arrayClass ty).before args s = true) : (Cond.arrayClass ty).before args' U = true := by
  obtain ⟨c, k, comp, h1, h2, h3⟩ := Cond.arrayClass_spec h
  obtain ⟨k', g1, g2⟩ := hal.2.2 _ _ h2
  have h4 : k'.kind = .array comp ty := by rw [g2]; exact h3
  simp [Cond.before, Cond.holds, Cond.value, hal.findClass, h1, g1, h4]
def ct_T (s : State) : Prop := am_T s ∧ ∀ w ∈ lw_tbl, ct_isX w = true → va_Nw w s
theorem ct_T.same {s u : State} (h : ct_T s) (e : s.vm = u.vm) : ct_T u := by
  refine ⟨h.1.same e, fun w hw hk => ?_⟩
  have h0 := h.2 w hw hk
  have hal : s.vm.Alike u.vm := by rw [e]; exact Vm.Alike.refl _
  cases w with
  | methodLinkNest a i x b => exact va_Nw.same rfl e h0
  | arrayClass t => exact ct_ac hal h0
  | arrayOver t =>
    cases t with
    | object C => exact va_AO.moved hal h0
    | _ => simp [ct_isX] at hk
  | _ => simp [ct_isX] at hk
theorem ct_T.warm {s U : State} (h : ct_T s) (hW : s.WarmedH U.vm) : ct_T U := by
  refine ⟨h.1.warm hW, fun w hw hk => ?_⟩
  have h0 := h.2 w hw hk
  cases w with
  | methodLinkNest a i x b => exact va_Nw.warmM hW h0
  | arrayClass t => exact ct_ac hW.alike h0
  | arrayOver t =>
    cases t with
    | object C => exact va_AO.moved hW.alike h0
    | _ => simp [ct_isX] at hk
  | _ => simp [ct_isX] at hk
theorem ct_T.x {s : State} (h : ct_T s) {ty : FieldType} (hw : Cond.arrayClass ty ∈ lw_tbl) (args : Array Value) : (Cond.arrayClass ty).before args s = true := ct_ac (Vm.Alike.refl _) (h.2 _ hw rfl)
abbrev ctK : Type := List (ClassId × FieldType)
def ctA (a b : va_W) : va_W := a ++ b
def ctB (a b : ctK) : ctK := a ++ b
def ct_C (M : amM) (p : Program) (R : Room) (s : State) (m : MethodId) (meth : Method) (c : Code) (NC NS : Nat) : Prop :=
  p.tables.exec = Jvm.exec ∧ c.code = M.2.1 ∧ c.maxLocals = M.2.2.1 ∧ s.vm.findClass M.1.cls = some m.cls ∧ ct_T s ∧ meth.name = "<init>" ∧ M.2.2.2.2.1 ≤ R.frames ∧ M.2.2.2.2.2 ≤ R.locals ∧ NC ≤ R.cells ∧ NS ≤ R.slots
def Y (M : amM) (D : va_G) (A : Nat → Prop) (NC NS : Nat) (Bk : va_W → ctK → Prop) (pc : Nat) (loc : List (Nat × Value)) (st : List Value) (ws : va_W) (tys : ctK) (k n : Nat) : Prop :=
  ∀ (p : Program) (l : Launch) (e : Env) (R : Room) (s : State) (m : MethodId) (args : Array Value) (below : List Frame) (meth : Method) (c : Code) (H0 H : Heap) (locs : List Loc) (ls : Array Slot) (QQ : State → Prop),
    ct_C M p R s m meth c NC NS → lv_has ls M.2.2.1 loc → va_K D vwCl tys s → va_P D vwCl ws H → va_D A ws → va_S A H0 H locs → (∀ q, H0.size ≤ q → A q) →
    (∀ (ws' : va_W) (tys' : ctK) (H' : Heap) (locs' : List Loc) (pc' : Nat) (ls' : Array Slot), Bk ws' tys' → decode M.2.1 pc' = .ok (.return_, 1) → va_K D vwCl tys' s → va_P D vwCl ws' H' → va_D A ws' → va_S A H0 H' locs' → W p l e R s m args below meth c H' locs' NC NS QQ (F0 m pc' ls' [])) →
    W p l e R s m args below meth c H locs k n QQ (F0 m pc ls st)
def ct_rm (M : amM) (NC NS : Nat) : Room := { frames := M.2.2.2.2.1, cells := NC, slots := NS, locals := M.2.2.2.2.2 }
def ct_Pc (D : va_G) (h0 ci : Nat) (fs As : List Value) (sz : Nat) : Array Value → State → Prop := va_Pc (.ref h0 :: As) (fun U => U.heap.size = sz ∧ va_P D vwCl [(h0, .inr (ci, fs))] U.heap ∧ va_K D vwCl [] U ∧ ct_T U)
def ct_Qc (D : va_G) (h0 ci : Nat) (fs : List Value) (sz : Nat) (Bk : va_W → ctK → Prop) : Array Value → State → Outcome → State → Prop := fun _ st oc t => (∃ (ws : va_W) (tys : ctK), oc = .returned none ∧ Bk ws tys ∧ va_P D vwCl ws t.heap ∧ va_K D vwCl tys t ∧ va_D (va_A [(h0, .inr (ci, fs))] sz) ws) ∧ va_F (va_A [(h0, .inr (ci, fs))] sz) st t
/-- a constructor's contract -/
def ctM (l : Launch) (M : amM) (D : va_G) (h0 ci : Nat) (fs As : List Value) (NC NS : Nat) (Bk : va_W → ctK → Prop) : Prop :=
  ∀ sz : Nat, Met l M.1 (am_ws M) (ct_rm M NC NS) (ct_Pc D h0 ci fs As sz) (ct_Qc D h0 ci fs sz Bk) NC NS (va_A [(h0, .inr (ci, fs))] sz)
theorem ct_D1 {A : Nat → Prop} {a : Nat} {e : va_E} (h : A a) : va_D A [(a, e)] := by
  refine ⟨fun i j p q hi hj _ => ?_, fun k q hk => ?_⟩
  · have h1 : i < 1 := (List.getElem?_eq_some_iff.mp hi).1
    have h2 : j < 1 := (List.getElem?_eq_some_iff.mp hj).1
    omega
  · have h1 : k < 1 := (List.getElem?_eq_some_iff.mp hk).1
    rw [show k = 0 by omega] at hk
    cases hk
    exact h
theorem ct_met {M : amM} {D : va_G} {h0 ci : Nat} {fs As : List Value} {NC NS : Nat} {Bk : va_W → ctK → Prop} (hy : plainName M.1.cls = true) (hret : M.2.2.2.1 = none) (hnm : M.1.name = "<init>") (hlen : (lg_sl (.ref h0 :: As)).length ≤ M.2.2.1)
    (hY : ∀ A : Nat → Prop, Y M D A NC NS Bk 0 (lv_args 0 (.ref h0 :: As)) [] [(h0, .inr (ci, fs))] [] 0 0) (l : Launch) : ctM l M D h0 ci fs As NC NS Bk := by
  intro sz
  refine Met.ofW (cc := M.2.1) (maxL := M.2.2.1) (ret := M.2.2.2.1) hy rfl ?_
  intro p e s m args below meth c s₁ B hml hv
  obtain ⟨rfl, hsz, hP, hK, hT⟩ := hv
  have hown : s.vm.findClass M.1.cls = some m.cls := findClass_of_methodNamed B.named
  have hlocks := B.notSynchronized
  have hx := B.exec
  have hb := B.bytes
  have hr := B.returns
  have hin : meth.name = "<init>" := (name_of_methodNamed B.named B.method).1.trans hnm
  subst hsz
  have hA : ∀ q : Nat, s.heap.size ≤ q → va_A [(h0, .inr (ci, fs))] s.heap.size q := fun q h => Or.inr h
  have hD : va_D (va_A [(h0, .inr (ci, fs))] s.heap.size) [(h0, .inr (ci, fs))] := ct_D1 (Or.inl ⟨0, _, rfl⟩)
  rw [lg_entry_eq]
  refine hY (va_A [(h0, .inr (ci, fs))] s.heap.size) p l e _ s m _ below meth c s.heap s.heap [] _ _ ⟨hx, hb, hml, hown, hT, hin, Nat.le_refl _, Nat.le_refl _, Nat.le_refl _, Nat.le_refl _⟩ (lv_entry _ hlen) hK hP hD va_S.rf hA ?_
  intro ws' tys' H' locs' pc' ls' hBk hd hK' hP' hD' hS'
  exact W.vret hx hb (hr.trans hret) (fun t ht hW => ⟨⟨ws', tys', rfl, hBk, by rw [ht]; exact hP', va_K.moved hW.alike hK', hD'⟩, hS'.F ht⟩) hS'.2.2 hd
theorem ct_blind {D : va_G} {h0 ci : Nat} {fs As : List Value} {sz : Nat} : FrameBlind (ct_Pc D h0 ci fs As sz) := by
  intro a U g mk q
  obtain ⟨q0, q1, qP, qK, qT⟩ := q
  exact ⟨q0, q1, qP, va_K.moved (u := U) (U := U.calling g mk a) (Vm.Alike.refl U.vm) qK, qT.same rfl⟩
theorem ct_app_l {D : va_G} {w1 w2 : va_W} {H : Heap} (h : va_P D vwCl (w1 ++ w2) H) : va_P D vwCl w1 H := fun k q hk => h k q (by rw [List.getElem?_append_left (List.getElem?_eq_some_iff.mp hk).1]; exact hk)
theorem ct_app_r {D : va_G} {w1 w2 : va_W} {H : Heap} (h : va_P D vwCl (w1 ++ w2) H) : va_P D vwCl w2 H := fun k q hk => h (w1.length + k) q (by rw [List.getElem?_append_right (Nat.le_add_right _ _), Nat.add_sub_cancel_left]; exact hk)
/-- behind the call of a constructor whose object is the last cell -/
theorem ct_after {p : Program} {l : Launch} {e : Env} {R : Room} {s : State} {m : MethodId} {args : Array Value} {below : List Frame} {meth : Method} {c : Code} {H : Heap} {locs : List Loc} {cells slots mc ms : Nat} {QQ : State → Prop} {pc : Nat} {ls : Array Slot} {rest st0 : List Value} {a : Array Value} {A0 : Nat → Prop} {H0 : Heap} {D : va_G} {q ci : Nat} {fs : List Value} {Bq : va_W → ctK → Prop} {w0 : va_W} {tys : ctK}
    (hr : va_Run p l e R s m args below meth c H locs cells slots mc ms (F0 m pc ls st0) rest (ct_Qc D q ci fs H.size Bq a) (va_A [(q, .inr (ci, fs))] H.size)) (hS : va_S A0 H0 H locs) (hP : va_P D vwCl (w0 ++ [(q, .inr (ci, fs))]) H) (hD : va_D A0 (w0 ++ [(q, .inr (ci, fs))])) (hA : ∀ x, H0.size ≤ x → A0 x) (hK : va_K D vwCl tys s)
    (kk : ∀ (blk : va_W) (tys1 : ctK) (H1 : Heap) (locs1 : List Loc), Bq blk tys1 → va_K D vwCl (tys ++ tys1) s → va_P D vwCl (w0 ++ blk) H1 → va_D A0 (w0 ++ blk) → va_S A0 H0 H1 locs1 → W p l e R s m args below meth c H1 locs1 (cells + mc) (slots + ms) QQ (F0 m (pc + 3) ls rest)) : W p l e R s m args below meth c H locs cells slots QQ (F0 m pc ls st0) := by
  intro T hT X0
  obtain ⟨v, st₀, t, T', L, h0, X', hL, e1, e2, ⟨⟨blk, tys1, hv, hq, hP1, hK1, hD1⟩, hz, hk⟩, st⟩ := hr T hT X0
  cases hv
  rw [h0] at hz hk
  have hF : ∀ x, va_A [(q, .inr (ci, fs))] H.size x → A0 x := by
    rintro x (⟨k, e, h⟩ | h)
    · exact hD.2 (w0.length + k) (x, e) (by rw [List.getElem?_append_right (Nat.le_add_right _ _), Nat.add_sub_cancel_left]; exact h)
    · exact hA x (Nat.le_trans hS.1 h)
  have hap : ∀ (k : Nat) (x : Nat × va_E), w0[k]? = some x → x.1 < H.size ∧ ¬ va_A [(q, .inr (ci, fs))] H.size x.1 := by
    intro k x hx
    have hlt : k < w0.length := (List.getElem?_eq_some_iff.mp hx).1
    have hx2 : (w0 ++ [(q, (.inr (ci, fs) : va_E))])[k]? = some x := by rw [List.getElem?_append_left hlt]; exact hx
    have hl := (hP k x hx2).lt
    refine ⟨hl, ?_⟩
    rintro (⟨k2, e, h⟩ | h)
    · have h3 : (w0 ++ [(q, (.inr (ci, fs) : va_E))])[w0.length + k2]? = some (x.1, e) := by rw [List.getElem?_append_right (Nat.le_add_right _ _), Nat.add_sub_cancel_left]; exact h
      have := hD.1 k (w0.length + k2) x (x.1, e) hx2 h3 rfl
      omega
    · omega
  obtain ⟨t2, a1, b1⟩ := kk blk tys1 T'.heap (locs ++ L) hq (hK.app (va_K.moved (by rw [← e2]; exact X'.warmed.alike.symm) hK1))
    (va_P.app ((ct_app_l hP).kept (fun k x hx => by rw [e1]; exact hk x.1 (hap k x hx).1 (hap k x hx).2)) (by rw [e1]; exact hP1))
    (va_D.app ⟨fun i j x y hi hj hxy => hD.1 i j x y (by rw [List.getElem?_append_left (List.getElem?_eq_some_iff.mp hi).1]; exact hi) (by rw [List.getElem?_append_left (List.getElem?_eq_some_iff.mp hj).1]; exact hj) hxy, fun k x hx => hD.2 k x (by rw [List.getElem?_append_left (List.getElem?_eq_some_iff.mp hx).1]; exact hx)⟩ (hD1.weaken (fun k x _ h => hF x.1 h)) (fun i j x y hx hy hxy => (hap i x hx).2 (by rw [hxy]; exact hD1.2 j y hy)))
    ⟨Nat.le_trans hS.1 (by rw [e1]; exact hz), fun x h1 h2 => by rw [e1, hk x (Nat.lt_of_lt_of_le h1 hS.1) (fun z => h2 (hF x z))]; exact hS.2.1 x h1 h2, fun x hx => by
      rcases List.mem_append.mp hx with h | h
      · exact hS.2.2 x h
      · exact hF _ (hL x h)⟩ T' rfl X'
  exact ⟨t2, st t2 a1, b1⟩
/-- the words of a constructor that is called -/
def ct_NV (N : amM) (n : Nat) : Prop := N.1.name = "<init>" ∧ N.2.2.2.1 = none ∧ Cond.code N.1 N.2.1 N.2.2.1 N.2.2.2.1 ∈ lw_tbl ∧ Cond.initialized N.1.cls ∈ lw_tbl ∧ (N.1.cls ≠ "java/lang/invoke/MethodHandle" ∧ N.1.cls ≠ "java/lang/invoke/VarHandle" ∧ (parseMethodDescriptor N.1.desc).map (fun d => d.parameters.length) = some n) ∧ Cond.instanceMethod N.1 ∈ lw_tbl
theorem ct_run {p : Program} {l : Launch} {e : Env} {R : Room} {s : State} {m : MethodId} {args : Array Value} {below : List Frame} {meth : Method} {c : Code} {H : Heap} {locs : List Loc} {cells slots mc ms : Nat} {cc : ByteArray} {nL : Nat} {own : String} {pc idx : Nat} {ls : Array Slot} {rest As : List Value} {D : va_G} {q ci n : Nat} {fs : List Value} {Bq : va_W → ctK → Prop} {N : amM}
    (hx : p.tables.exec = Jvm.exec) (hb : c.code = cc) (hml : c.maxLocals = nL) (hown : s.vm.findClass own = some m.cls) (hts : ct_T s) (hM : ctM l N D q ci fs As mc ms Bq) (hN : ct_NV N n) (hl : Cond.methodLink own idx N.1 ∈ lw_tbl ∨ ∃ host, Cond.methodLinkNest own idx N.1 host ∈ lw_tbl) (hP : va_P D vwCl [(q, .inr (ci, fs))] H) (hK : va_K D vwCl [] s) (hn : As.length = n) (hls : ls.size = nL) (hR : N.2.2.2.2.1 + 1 ≤ R.frames ∧ 8 + (N.2.2.1 + 11) + N.2.2.2.2.2 ≤ R.locals) (hW : (rest.map fun v => v.category).sum ≤ 8) (hd : decode cc pc = .ok (.invokespecial idx, 3)) (hf : cells + mc ≤ R.cells ∧ slots + ms ≤ R.slots) :
    va_Run p l e R s m args below meth c H locs cells slots mc ms (F0 m pc ls (As.reverse ++ .ref q :: rest)) rest (ct_Qc D q ci fs H.size Bq (Value.ref q :: As).toArray) (va_A [(q, .inr (ci, fs))] H.size) := by
  obtain ⟨hy1, hret, hcode, hini, hnm, hin⟩ := hN
  rw [hret] at hcode
  have hws : ∀ w ∈ am_ws N, w.before args s = true := am_wsT hts.1 (by rw [hret]; exact hcode)
  have hpre : PreS s H (ct_Pc D q ci fs As H.size) (.ref q :: As) := ⟨ct_blind, fun U hU hW => ⟨rfl, by rw [hU], by rw [hU]; exact hP, va_K.moved hW.alike hK, hts.warm hW⟩⟩
  have hw0 : am_ws N = Cond.code N.1 N.2.1 N.2.2.1 none :: [] := by unfold am_ws; rw [hret]
  rcases hl with hl | ⟨host, hl⟩
  · exact va_runI (Ts := []) (bytes := N.2.1) (maxL := N.2.2.1) ⟨hx, hb, hml, hown, fun _ z => absurd z List.not_mem_nil⟩ (hM H.size) ⟨callB_of n hws (am_goodIn N) hw0 rfl rfl (hts.1.at hini rfl args) (hts.1.at hl rfl args) hnm hR, hy1, hts.1.at hin rfl args⟩ hpre rfl hn hls rfl (lv_room hW) hd hf
  · exact va_runIN (Ts := []) (bytes := N.2.1) (maxL := N.2.2.1) ⟨hx, hb, hml, hown, fun _ z => absurd z List.not_mem_nil⟩ (hM H.size) ⟨va_cnB n hws (am_goodIn N) hw0 rfl rfl (hts.2 _ hl rfl) (hts.1.at hini rfl args) hnm hR, hy1, hts.1.at hin rfl args⟩ hpre rfl hn hls rfl (lv_room hW) hd hf
section YR
variable {M : amM} {D : va_G} {A : Nat → Prop} {NC NS : Nat} {Bk : va_W → ctK → Prop} {pc : Nat} {loc : List (Nat × Value)} {st : List Value} {ws : va_W} {tys : ctK} {k n : Nat}
theorem y_aload {i : Fin 4} {x : Nat} (j : Nat) (hd : decode M.2.1 pc = .ok (.aload_n i, 1)) (hj : loc[j]? = some ((i : Nat), .ref x)) (kk : Y M D A NC NS Bk (pc + 1) loc (.ref x :: st) ws tys k n) : Y M D A NC NS Bk pc loc st ws tys k n := by
  intro p l e R s m args below meth c H0 H locs ls QQ hC hL hK hP hD hS hA hr
  obtain ⟨hx, hb, hml, hown, hts, hin0, hfr, hlo, hce, hsl⟩ := (show _ from hC)
  exact lv_aload_n hx hb hd rfl (lv_at hL j hj) (kk p l e R s m args below meth c H0 H locs ls QQ hC hL hK hP hD hS hA hr)
theorem y_iload {i : Fin 4} {x : Int32} (j : Nat) (hd : decode M.2.1 pc = .ok (.iload_n i, 1)) (hj : loc[j]? = some ((i : Nat), .int x)) (kk : Y M D A NC NS Bk (pc + 1) loc (.int x :: st) ws tys k n) : Y M D A NC NS Bk pc loc st ws tys k n := by
  intro p l e R s m args below meth c H0 H locs ls QQ hC hL hK hP hD hS hA hr
  obtain ⟨hx, hb, hml, hown, hts, hin0, hfr, hlo, hce, hsl⟩ := (show _ from hC)
  exact lv_iload_n hx hb hd rfl (lv_at hL j hj) (kk p l e R s m args below meth c H0 H locs ls QQ hC hL hK hP hD hS hA hr)
theorem y_iconst {z : Int} (v : Int32) (hd : decode M.2.1 pc = .ok (.iconst z, 1)) (hv : Int32.ofInt z = v) (kk : Y M D A NC NS Bk (pc + 1) loc (.int v :: st) ws tys k n) : Y M D A NC NS Bk pc loc st ws tys k n := by
  intro p l e R s m args below meth c H0 H locs ls QQ hC hL hK hP hD hS hA hr
  obtain ⟨hx, hb, hml, hown, hts, hin0, hfr, hlo, hce, hsl⟩ := (show _ from hC)
  exact lv_iconst hx hb hd hv (kk p l e R s m args below meth c H0 H locs ls QQ hC hL hK hP hD hS hA hr)
theorem y_bipush {z : Int} (v : Int32) (hd : decode M.2.1 pc = .ok (.bipush z, 2)) (hv : (Int8.ofInt z).toInt32 = v) (kk : Y M D A NC NS Bk (pc + 2) loc (.int v :: st) ws tys k n) : Y M D A NC NS Bk pc loc st ws tys k n := by
  intro p l e R s m args below meth c H0 H locs ls QQ hC hL hK hP hD hS hA hr
  obtain ⟨hx, hb, hml, hown, hts, hin0, hfr, hlo, hce, hsl⟩ := (show _ from hC)
  exact lv_bipush hx hb hd hv (kk p l e R s m args below meth c H0 H locs ls QQ hC hL hK hP hD hS hA hr)
theorem y_sipush {z : Int} (v : Int32) (hd : decode M.2.1 pc = .ok (.sipush z, 3)) (hv : (Int16.ofInt z).toInt32 = v) (kk : Y M D A NC NS Bk (pc + 3) loc (.int v :: st) ws tys k n) : Y M D A NC NS Bk pc loc st ws tys k n := by
  intro p l e R s m args below meth c H0 H locs ls QQ hC hL hK hP hD hS hA hr
  obtain ⟨hx, hb, hml, hown, hts, hin0, hfr, hlo, hce, hsl⟩ := (show _ from hC)
  exact lv_sipush hx hb hd hv (kk p l e R s m args below meth c H0 H locs ls QQ hC hL hK hP hD hS hA hr)
theorem y_dup {x : Nat} (hd : decode M.2.1 pc = .ok (.dup, 1)) (kk : Y M D A NC NS Bk (pc + 1) loc (.ref x :: .ref x :: st) ws tys k n) : Y M D A NC NS Bk pc loc (.ref x :: st) ws tys k n := by
  intro p l e R s m args below meth c H0 H locs ls QQ hC hL hK hP hD hS hA hr
  obtain ⟨hx, hb, hml, hown, hts, hin0, hfr, hlo, hce, hsl⟩ := (show _ from hC)
  exact lv_dup hx hb hd rfl (kk p l e R s m args below meth c H0 H locs ls QQ hC hL hK hP hD hS hA hr)
theorem y_astore {i : Fin 4} {x : Nat} (loc' : List (Nat × Value)) (hd : decode M.2.1 pc = .ok (.astore_n i, 1)) (hn : (i : Nat) < M.2.2.1) (hl : ((i : Nat), Value.ref x) :: loc.filter (fun q => !(q.1 == (i : Nat)) && !(q.1 + 1 == (i : Nat) && q.2.category == 2)) = loc') (kk : Y M D A NC NS Bk (pc + 1) loc' st ws tys k n) : Y M D A NC NS Bk pc loc (.ref x :: st) ws tys k n := by
  intro p l e R s m args below meth c H0 H locs ls QQ hC hL hK hP hD hS hA hr
  obtain ⟨hx, hb, hml, hown, hts, hin0, hfr, hlo, hce, hsl⟩ := (show _ from hC)
  exact lv_astore_n hx hb hd rfl hL hn hl (fun ls hL => kk p l e R s m args below meth c H0 H locs ls QQ hC hL hK hP hD hS hA hr)
theorem y_istore {i : Fin 4} {x : Int32} (loc' : List (Nat × Value)) (hd : decode M.2.1 pc = .ok (.istore_n i, 1)) (hn : (i : Nat) < M.2.2.1) (hl : ((i : Nat), Value.int x) :: loc.filter (fun q => !(q.1 == (i : Nat)) && !(q.1 + 1 == (i : Nat) && q.2.category == 2)) = loc') (kk : Y M D A NC NS Bk (pc + 1) loc' st ws tys k n) : Y M D A NC NS Bk pc loc (.int x :: st) ws tys k n := by
  intro p l e R s m args below meth c H0 H locs ls QQ hC hL hK hP hD hS hA hr
  obtain ⟨hx, hb, hml, hown, hts, hin0, hfr, hlo, hce, hsl⟩ := (show _ from hC)
  exact lv_istore_n hx hb hd rfl hL hn hl (fun ls hL => kk p l e R s m args below meth c H0 H locs ls QQ hC hL hK hP hD hS hA hr)
theorem y_iinc {i j : Nat} {z : Int} {x v : Int32} (loc' : List (Nat × Value)) (hd : decode M.2.1 pc = .ok (.iinc i z, 3)) (hj : loc[j]? = some (i, .int x)) (hv : x + Int32.ofInt z = v) (hn : i < M.2.2.1) (hl : (i, Value.int v) :: loc.filter (fun q => !(q.1 == i) && !(q.1 + 1 == i && q.2.category == 2)) = loc') (kk : Y M D A NC NS Bk (pc + 3) loc' st ws tys k n) : Y M D A NC NS Bk pc loc st ws tys k n := by
  intro p l e R s m args below meth c H0 H locs ls QQ hC hL hK hP hD hS hA hr
  obtain ⟨hx, hb, hml, hown, hts, hin0, hfr, hlo, hce, hsl⟩ := (show _ from hC)
  exact lv_iinc hx hb hd hL hj hv hn hl (fun ls hL => kk p l e R s m args below meth c H0 H locs ls QQ hC hL hK hP hD hS hA hr)
theorem y_goto {off : Int} (tgt : Nat) (hd : decode M.2.1 pc = .ok (.goto off, 3)) (ht : (pc : Int) + off = (tgt : Int)) (kk : Y M D A NC NS Bk tgt loc st ws tys k n) : Y M D A NC NS Bk pc loc st ws tys k n := by
  intro p l e R s m args below meth c H0 H locs ls QQ hC hL hK hP hD hS hA hr
  obtain ⟨hx, hb, hml, hown, hts, hin0, hfr, hlo, hce, hsl⟩ := (show _ from hC)
  exact lv_goto hx hb hd ht (kk p l e R s m args below meth c H0 H locs ls QQ hC hL hK hP hD hS hA hr)
theorem y_geT {off : Int} {x y : Int32} (tgt : Nat) (hd : decode M.2.1 pc = .ok (.if_icmp .ge off, 3)) (ht : (pc : Int) + off = (tgt : Int)) (hc : y ≤ x) (kk : Y M D A NC NS Bk tgt loc st ws tys k n) : Y M D A NC NS Bk pc loc (.int y :: .int x :: st) ws tys k n := by
  intro p l e R s m args below meth c H0 H locs ls QQ hC hL hK hP hD hS hA hr
  obtain ⟨hx, hb, hml, hown, hts, hin0, hfr, hlo, hce, hsl⟩ := (show _ from hC)
  exact lv_icmp_ge hx hb hd ht (fun _ => kk p l e R s m args below meth c H0 H locs ls QQ hC hL hK hP hD hS hA hr) (fun z => absurd hc z)
theorem y_geF {off : Int} {x y : Int32} (tgt : Nat) (ht : (pc : Int) + off = (tgt : Int)) (hd : decode M.2.1 pc = .ok (.if_icmp .ge off, 3)) (hc : ¬ y ≤ x) (kk : Y M D A NC NS Bk (pc + 3) loc st ws tys k n) : Y M D A NC NS Bk pc loc (.int y :: .int x :: st) ws tys k n := by
  intro p l e R s m args below meth c H0 H locs ls QQ hC hL hK hP hD hS hA hr
  obtain ⟨hx, hb, hml, hown, hts, hin0, hfr, hlo, hce, hsl⟩ := (show _ from hC)
  exact lv_icmp_ge hx hb hd ht (fun z => absurd z hc) (fun _ => kk p l e R s m args below meth c H0 H locs ls QQ hC hL hK hP hD hS hA hr)
theorem y_obj {idx x : Nat} (hd : decode M.2.1 pc = .ok (.invokespecial idx, 3)) (hl : Cond.methodLink M.1.cls idx Lib.objectInit ∈ lw_tbl) (h1 : Nat.ble 1 M.2.2.2.2.1 = true) (h2 : Nat.ble 20 M.2.2.2.2.2 = true) (kk : Y M D A NC NS Bk (pc + 3) loc [] ws tys k n) : Y M D A NC NS Bk pc loc [.ref x] ws tys k n := by
  intro p l e R s m args below meth c H0 H locs ls QQ hC hL hK hP hD hS hA hr
  obtain ⟨hx, hb, hml, hown, hts, hin0, hfr, hlo, hce, hsl⟩ := (show _ from hC)
  have hw1 : Cond.instanceMethod Lib.objectInit ∈ lw_tbl := lm_t1 _ (List.mem_of_getElem? (i := 23) rfl)
  have hw2 : Cond.code Lib.objectInit ⟨#[0xb1]⟩ 1 none ∈ lw_tbl := lm_t1 _ (List.mem_of_getElem? (i := 24) rfl)
  exact W.objInit (rest := []) hx hb hown (hts.1.at hl rfl args) (hts.1.at hw1 rfl args) (hts.1.at hw2 rfl args) rfl (hL.1.trans hml.symm) rfl hd (Nat.le_trans (Nat.le_of_ble_eq_true h1) hfr) (Nat.le_trans (Nat.add_le_add_right (lv_room (st := []) (Nat.zero_le _)) 12) (Nat.le_trans (Nat.le_of_ble_eq_true h2) hlo)) (kk p l e R s m args below meth c H0 H locs ls QQ hC hL hK hP hD hS hA hr)
theorem y_max {idx : Nat} {x y : Int32} (v : Int32) (hd : decode M.2.1 pc = .ok (.invokestatic idx, 3)) (hl : Cond.methodLink M.1.cls idx Lib.Math.max.name ∈ lw_tbl) (h1 : Nat.ble 1 M.2.2.2.2.1 = true) (h2 : Nat.ble 21 M.2.2.2.2.2 = true) (h3 : k ≤ NC) (h4 : n ≤ NS) (h5 : (st.map fun v => v.category).sum ≤ 8) (hv : (if x < y then y else x) = v) (kk : Y M D A NC NS Bk (pc + 3) loc (.int v :: st) ws tys k n) : Y M D A NC NS Bk pc loc (.int y :: .int x :: st) ws tys k n := by
  intro p l e R s m args below meth c H0 H locs ls QQ hC hL hK hP hD hS hA hr
  obtain ⟨hx, hb, hml, hown, hts, hin0, hfr, hlo, hce, hsl⟩ := (show _ from hC)
  have hw1 : Cond.static Lib.Math.max.name ∈ lw_tbl := lm_t1 _ (List.mem_of_getElem? (i := 92) rfl)
  have hw2 : Cond.initialized "java/lang/Math" ∈ lw_tbl := lm_t1 _ (List.mem_of_getElem? (i := 6) rfl)
  have hw3 : Cond.code Lib.Math.max.name Lib.Math.max.code 2 (some .int) ∈ lw_tbl := lm_t1 _ (List.mem_of_getElem? (i := 93) rfl)
  subst hv
  exact va_mmax hx hb (hml.trans hL.1.symm) hown (hts.1.at hl rfl args) (hts.1.at hw1 rfl args) (hts.1.at hw2 rfl args) (hts.1.at hw3 rfl args) (Nat.le_trans (Nat.le_of_ble_eq_true h1) hfr) (Nat.le_trans (Nat.add_le_add_right h5 13) (Nat.le_trans (Nat.le_of_ble_eq_true h2) hlo)) (Nat.le_trans h3 hce) (Nat.le_trans h4 hsl) hd (kk p l e R s m args below meth c H0 H locs ls QQ hC hL hK hP hD hS hA hr)
theorem y_new {idx : Nat} {C : String} {T : u_T} {N ci : Nat} {ty : Nat → FieldType} {fs : List Value} {c0 : Nat × va_E} {B : va_W} (hd : decode M.2.1 pc = .ok (.new idx, 3)) (hin : ∀ w ∈ u_ws C T N, w ∈ lw_tbl) (hty : ∀ k, k < N → parseFieldDescriptor (T k).2.2.1 = some (ty k)) (hcl : Cond.classLink M.1.cls idx C ∈ lw_tbl) (hinst : Cond.instantiable C N ∈ lw_tbl) (hini : Cond.initialized C ∈ lw_tbl) (hc : vwCl[ci]? = some (C, T, N)) (hfs : ∀ j, j < N → defaultValue (ty j) = vp_V fs j) (h1 : k + 1 ≤ NC) (h2 : n + N ≤ NS) (kk : ∀ q : Nat, Y M D A NC NS Bk (pc + 3) loc (.ref q :: st) (c0 :: (ctA B [(q, .inr (ci, fs))])) tys (k + 1) (n + N)) : Y M D A NC NS Bk pc loc st (c0 :: B) tys k n := by
  intro p l e R s m args below meth c H0 H locs ls QQ hC hL hK hP hD hS hA hr
  obtain ⟨hx, hb, hml, hown, hts, hin0, hfr, hlo, hce, hsl⟩ := (show _ from hC)
  exact va_new hx hb (hts.1.us hin args) (fun _ h => h) ty hty hown (hts.1.at hcl rfl args) (hts.1.at hinst rfl args) (hts.1.at hini rfl args) hK hP hD hS hA hc hfs (Nat.le_trans h1 hce) (Nat.le_trans h2 hsl) hd (fun q H hP hD hS => kk q p l e R s m args below meth c H0 H locs ls QQ hC hL hK hP hD hS hA hr)
theorem y_newa {atype : ArrayType} (ty : FieldType) {x : Int32} (N' : Nat) (a0 : vp_A) {c0 : Nat × va_E} {B : va_W} (hd : decode M.2.1 pc = .ok (.newarray atype, 2)) (harr : Cond.arrayClass (newarray.typeOf atype) ∈ lw_tbl) (hty : newarray.typeOf atype = ty) (ha : ∀ cA : ClassId, vp_cell cA a0 = arrV cA N' (fun _ => defaultValue ty)) (hn : ¬ x < 0) (hN : x.toNatClampNeg = N') (hby : N' * componentBytes ty ≤ 536870912) (h1 : k + 1 ≤ NC) (h2 : n + N' ≤ NS) (kk : ∀ (q : Nat) (cA : ClassId), Y M D A NC NS Bk (pc + 2) loc (.ref q :: st) (c0 :: (ctA B [(q, .inl (cA, a0))])) (ctB tys [(cA, ty)]) (k + 1) (n + N')) : Y M D A NC NS Bk pc loc (.int x :: st) (c0 :: B) tys k n := by
  intro p l e R s m args below meth c H0 H locs ls QQ hC hL hK hP hD hS hA hr
  obtain ⟨hx, hb, hml, hown, hts, hin0, hfr, hlo, hce, hsl⟩ := (show _ from hC)
  exact va_newa hx hb (hts.x harr args) hty hK hP hD hS hA ha hn hN hby (Nat.le_trans h1 hce) (Nat.le_trans h2 hsl) hd (fun q cA H hK hP hD hS => kk q cA p l e R s m args below meth c H0 H locs ls QQ hC hL hK hP hD hS hA hr)
theorem y_newq {idx : Nat} {C : String} {x : Int32} (N' : Nat) {c0 : Nat × va_E} {B : va_W} (hd : decode M.2.1 pc = .ok (.anewarray idx, 3)) (hcl : Cond.classLink M.1.cls idx C ∈ lw_tbl) (hov : Cond.arrayOver (.object C) ∈ lw_tbl) (hn : ¬ x < 0) (hN : x.toNatClampNeg = N') (hby : N' * 4 ≤ 536870912) (h1 : k + 1 ≤ NC) (h2 : n + N' ≤ NS) (kk : ∀ (q : Nat) (cA : ClassId), Y M D A NC NS Bk (pc + 3) loc (.ref q :: st) (c0 :: (ctA B [(q, .inl (cA, N', .inr (.inr (.inr (.inr (fun _ => none))))))])) (ctB tys [(cA, .object C)]) (k + 1) (n + N')) : Y M D A NC NS Bk pc loc (.int x :: st) (c0 :: B) tys k n := by
  intro p l e R s m args below meth c H0 H locs ls QQ hC hL hK hP hD hS hA hr
  obtain ⟨hx, hb, hml, hown, hts, hin0, hfr, hlo, hce, hsl⟩ := (show _ from hC)
  exact va_newq hx hb hown (hts.1.at hcl rfl args) (hts.2 _ hov rfl) hK hP hD hS hA hn hN hby (Nat.le_trans h1 hce) (Nat.le_trans h2 hsl) hd (fun q cA H hK hP hD hS => kk q cA p l e R s m args below meth c H0 H locs ls QQ hC hL hK hP hD hS hA hr)
theorem y_putF {idx a ci : Nat} {C : String} {T : u_T} {N : Nat} {ty0 : Nat → FieldType} {fs : List Value} (fs' : List Value) (kf : Nat) {v : Value} {ty : FieldType} {B : va_W} (hd : decode M.2.1 pc = .ok (.putfield idx, 3)) (hin : ∀ w ∈ u_ws C T N, w ∈ lw_tbl) (hty : ∀ k, k < N → parseFieldDescriptor (T k).2.2.1 = some (ty0 k)) (hnm : ∀ a, a < N → ∀ b, b < N → a ≠ b → (T a).2.1 ≠ (T b).2.1) (hc : vwCl[ci]? = some (C, T, N)) (hk : kf < N) (hlink : Cond.fieldLink M.1.cls idx (T kf).1 (T kf).2.1 (T kf).2.2.1 ∈ lw_tbl) (hfin : (T kf).2.2.2 = true) (hdecl : (T kf).1 = M.1.cls) (hdt : ty0 kf = ty) (hn : narrow ty v = v) (hfit : fits ty v = true) (hl : Nat.blt kf fs.length = true) (hfs : fs.set kf v = fs') (kk : Y M D A NC NS Bk (pc + 3) loc st ((a, .inr (ci, fs')) :: B) tys k n) : Y M D A NC NS Bk pc loc (v :: .ref a :: st) ((a, .inr (ci, fs)) :: B) tys k n := by
  intro p l e R s m args below meth c H0 H locs ls QQ hC hL hK hP hD hS hA hr
  obtain ⟨hx, hb, hml, hown, hts, hin0, hfr, hlo, hce, hsl⟩ := (show _ from hC)
  subst hdt; subst hfs
  exact va_putF hx hb (hts.1.us hin args) (fun _ h => h) ty0 hty hnm hown hK hP hD hS 0 rfl hc kf hk (hts.1.at hlink rfl args) (fun _ h => h) hfin hin0 hdecl (hty kf hk) hn hfit (Nat.blt_eq.mp hl) hd (fun H locs hP hD hS => kk p l e R s m args below meth c H0 H locs ls QQ hC hL hK hP hD hS hA hr)
theorem y_put {idx a ci : Nat} {C : String} {T : u_T} {N : Nat} {ty0 : Nat → FieldType} {fs : List Value} (fs' : List Value) (kf : Nat) {v : Value} {ty : FieldType} {B : va_W} (hd : decode M.2.1 pc = .ok (.putfield idx, 3)) (hin : ∀ w ∈ u_ws C T N, w ∈ lw_tbl) (hty : ∀ k, k < N → parseFieldDescriptor (T k).2.2.1 = some (ty0 k)) (hnm : ∀ a, a < N → ∀ b, b < N → a ≠ b → (T a).2.1 ≠ (T b).2.1) (hc : vwCl[ci]? = some (C, T, N)) (hk : kf < N) (hlink : Cond.fieldLink M.1.cls idx (T kf).1 (T kf).2.1 (T kf).2.2.1 ∈ lw_tbl) (hfin : (T kf).2.2.2 = false) (hdt : ty0 kf = ty) (hn : narrow ty v = v) (hfit : fits ty v = true) (hl : Nat.blt kf fs.length = true) (hfs : fs.set kf v = fs') (kk : Y M D A NC NS Bk (pc + 3) loc st ((a, .inr (ci, fs')) :: B) tys k n) : Y M D A NC NS Bk pc loc (v :: .ref a :: st) ((a, .inr (ci, fs)) :: B) tys k n := by
  intro p l e R s m args below meth c H0 H locs ls QQ hC hL hK hP hD hS hA hr
  obtain ⟨hx, hb, hml, hown, hts, hin0, hfr, hlo, hce, hsl⟩ := (show _ from hC)
  subst hdt; subst hfs
  exact va_put hx hb (hts.1.us hin args) (fun _ h => h) ty0 hty hnm hown hK hP hD hS 0 rfl hc kf hk (hts.1.at hlink rfl args) (fun _ h => h) hfin (hty kf hk) hn hfit (Nat.blt_eq.mp hl) hd (fun H locs hP hD hS => kk p l e R s m args below meth c H0 H locs ls QQ hC hL hK hP hD hS hA hr)
theorem y_get {idx a ci : Nat} {C : String} {T : u_T} {N : Nat} {fs : List Value} (kf : Nat) {v : Value} {B : va_W} (hd : decode M.2.1 pc = .ok (.getfield idx, 3)) (hin : ∀ w ∈ u_ws C T N, w ∈ lw_tbl) (hc : vwCl[ci]? = some (C, T, N)) (hk : kf < N) (hlink : Cond.fieldLink M.1.cls idx (T kf).1 (T kf).2.1 (T kf).2.2.1 ∈ lw_tbl) (hv : fs[kf]? = some v) (kk : Y M D A NC NS Bk (pc + 3) loc (v :: st) ((a, .inr (ci, fs)) :: B) tys k n) : Y M D A NC NS Bk pc loc (.ref a :: st) ((a, .inr (ci, fs)) :: B) tys k n := by
  intro p l e R s m args below meth c H0 H locs ls QQ hC hL hK hP hD hS hA hr
  obtain ⟨hx, hb, hml, hown, hts, hin0, hfr, hlo, hce, hsl⟩ := (show _ from hC)
  exact va_get hx hb (hts.1.us hin args) (fun _ h => h) hown hK hP 0 rfl hc kf hk (hts.1.at hlink rfl args) (fun _ h => h) hv hd (kk p l e R s m args below meth c H0 H locs ls QQ hC hL hK hP hD hS hA hr)
theorem y_iast (q0 t0 : Nat) {a : Nat} {cA : ClassId} {nn : Nat} {f : Nat → Int32} {i x : Int32} (hd : decode M.2.1 pc = .ok (.iastore, 1)) (ha : ws[q0]? = some (a, .inl (cA, nn, .inl f))) (ht : tys[t0]? = some (cA, .int)) (hi : vp_in i nn) (kk : Y M D A NC NS Bk (pc + 1) loc st (ws.set q0 (a, .inl (cA, nn, .inl (upd f i.toNatClampNeg x)))) tys k n) : Y M D A NC NS Bk pc loc (.int x :: .int i :: .ref a :: st) ws tys k n := by
  intro p l e R s m args below meth c H0 H locs ls QQ hC hL hK hP hD hS hA hr
  obtain ⟨hx, hb, hml, hown, hts, hin0, hfr, hlo, hce, hsl⟩ := (show _ from hC)
  exact va_iast hx hb hK hP hD hS q0 t0 ha ht hi hd (fun H locs hP hD hS => kk p l e R s m args below meth c H0 H locs ls QQ hC hL hK hP hD hS hA hr)
theorem y_astq (q0 t0 qk ci : Nat) {a v : Nat} {cA : ClassId} {r : vw_C} {nn : Nat} {vs : List Value} {f : Nat → Option Nat} {i : Int32} (hd : decode M.2.1 pc = .ok (.aastore, 1)) (ha : ws[q0]? = some (a, .inl (cA, nn, .inr (.inr (.inr (.inr f)))))) (ht : tys[t0]? = some (cA, .object r.1)) (hv : ws[qk]? = some (v, .inr (ci, vs))) (hc : vwCl[ci]? = some r) (hi : vp_in i nn) (kk : Y M D A NC NS Bk (pc + 1) loc st (ws.set q0 (a, .inl (cA, nn, .inr (.inr (.inr (.inr (va_up f i.toNatClampNeg (some v)))))))) tys k n) : Y M D A NC NS Bk pc loc (.ref v :: .int i :: .ref a :: st) ws tys k n := by
  intro p l e R s m args below meth c H0 H locs ls QQ hC hL hK hP hD hS hA hr
  obtain ⟨hx, hb, hml, hown, hts, hin0, hfr, hlo, hce, hsl⟩ := (show _ from hC)
  exact va_astq hx hb hK hP hD hS q0 t0 qk ci ha ht hv hc hi hd (fun H locs hP hD hS => kk p l e R s m args below meth c H0 H locs ls QQ hC hL hK hP hD hS hA hr)
theorem y_call {N : amM} {idx q ci nA mc ms : Nat} {fs : List Value} (As : List Value) {Bq : va_W → ctK → Prop} {c0 : Nat × va_E} {B : va_W} (hd : decode M.2.1 pc = .ok (.invokespecial idx, 3)) (hM : ∀ l : Launch, ctM l N D q ci fs As mc ms Bq) (hN : ct_NV N nA) (hl : Cond.methodLink M.1.cls idx N.1 ∈ lw_tbl ∨ ∃ host, Cond.methodLinkNest M.1.cls idx N.1 host ∈ lw_tbl) (hn : As.length = nA) (h1 : Nat.ble (N.2.2.2.2.1 + 1) M.2.2.2.2.1 = true) (h2 : Nat.ble (8 + (N.2.2.1 + 11) + N.2.2.2.2.2) M.2.2.2.2.2 = true) (h3 : (st.map fun v => v.category).sum ≤ 8) (h4 : k + mc ≤ NC) (h5 : n + ms ≤ NS) (kk : ∀ (blk : va_W) (tys1 : ctK), Bq blk tys1 → Y M D A NC NS Bk (pc + 3) loc st (c0 :: (ctA B blk)) (ctB tys tys1) (k + mc) (n + ms)) : Y M D A NC NS Bk pc loc (As.reverse ++ .ref q :: st) (c0 :: (ctA B [(q, .inr (ci, fs))])) tys k n := by
  intro p l e R s m args below meth c H0 H locs ls QQ hC hL hK hP hD hS hA hr
  obtain ⟨hx, hb, hml, hown, hts, hin0, hfr, hlo, hce, hsl⟩ := (show _ from hC)
  have hP1 : va_P D vwCl ((c0 :: B) ++ [(q, .inr (ci, fs))]) H := hP
  have hrun := ct_run (e := e) (below := below) (meth := meth) (locs := locs) (cells := k) (slots := n) (args := args) (rest := st) hx hb hml hown hts (hM l) hN hl (ct_app_r hP1) (hK.sub [] rfl) hn hL.1 ⟨Nat.le_trans (Nat.le_of_ble_eq_true h1) hfr, Nat.le_trans (Nat.le_of_ble_eq_true h2) hlo⟩ h3 hd ⟨Nat.le_trans h4 hce, Nat.le_trans h5 hsl⟩
  exact ct_after (w0 := c0 :: B) hrun hS hP1 hD hA hK (fun blk tys1 H locs hq hK hP hD hS => kk blk tys1 hq p l e R s m args below meth c H0 H locs ls QQ hC hL hK hP hD hS hA hr)
theorem y_ret (hd : decode M.2.1 pc = .ok (.return_, 1)) (h1 : k ≤ NC) (h2 : n ≤ NS) (hq : Bk ws tys) : Y M D A NC NS Bk pc loc [] ws tys k n := by
  intro p l e R s m args below meth c H0 H locs ls QQ hC hL hK hP hD hS hA hr
  obtain ⟨hx, hb, hml, hown, hts, hin0, hfr, hlo, hce, hsl⟩ := (show _ from hC)
  exact W.widen h1 h2 (hr ws tys H locs pc ls hq hd hK hP hD hS)
end YR
