/-! THE LAW'S LOOP: the judgement Z (both worlds, the script, the count), and its rows -/
def lw_ad (adX adM : Nat → Nat) : Nat → Nat := fun k => bif Nat.beq k 0 then adX 0 else adM 0
def lwC (p : Program) (s : State) (m : MethodId) (meth : Method) (c : Code) (b L : Nat) (xs : Nat → Int32) (D : va_G) (adX : Nat → Nat) (caX : Nat → ClassId) (adM : Nat → Nat) (caM : Nat → ClassId) : Prop :=
  (p.tables.exec = Jvm.exec ∧ c.code = code ∧ meth.sig.returnType = ret ∧ c.maxLocals = 4 ∧ s.vm.findClass RL = some m.cls ∧ am_T s ∧ meth.locks = false) ∧ (va_X b L xs s s.heap ∧ b < s.heap.size) ∧
  (va_K D vwCl (am_tys shX caX) s ∧ (∀ i j, i < shX.length → j < shX.length → adX i = adX j → i = j) ∧ ∀ q, am_A shX adX q → s.heap.size ≤ q) ∧
  (va_K D vwCl (am_tys shM caM) s ∧ (∀ i j, i < shM.length → j < shM.length → adM i = adM j → i = j) ∧ ∀ q, am_A shM adM q → s.heap.size ≤ q) ∧ ∀ i j, i < shX.length → j < shM.length → adX i ≠ adM j
def Z (L : Nat) (xs : Nat → Int32) (i pc : Nat) (st : List Value) (SX SM : amS) : Prop :=
  ∀ (p : Program) (l : Launch) (e : Env) (s : State) (m : MethodId) (below : List Frame) (meth : Method) (c : Code) (b : Nat) (D : va_G) (adX : Nat → Nat) (caX : Nat → ClassId) (adM : Nat → Nat) (caM : Nat → ClassId) (H : Heap) (locs : List Loc) (ls : Array Slot),
    lwC p s m meth c b L xs D adX caX adM caM → lv_has ls 4 [(3, .int (nI i)), (2, .ref (adM 0)), (1, .ref (adX 0)), (0, .ref b)] → va_P D vwCl (am_world shX adX caX SX) H → va_P D vwCl (am_world shM adM caM SM) H → va_S (fun q => s.heap.size ≤ q) s.heap H locs →
    W p l e room_1 s m #[Value.ref b] below meth c H locs 74 10590 (lw_Z below #[Value.ref b] s) (F0 m pc ls (st.map (am_cv (lw_ad adX adM))))
/-- a call of the law into one world; the other stays -/
theorem lw_call {p : Program} {l : Launch} {e : Env} {s : State} {m : MethodId} {below : List Frame} {meth : Method} {c : Code} {args : Array Value} {H : Heap} {locs : List Loc} {cells slots : Nat} {QQ : State → Prop} {h h2 : List amSh} {D : va_G} {ad ad2 : Nat → Nat} {ca ca2 : Nat → ClassId} {S S2 : amS} {A : Nat → Prop} {H0 : Heap} {N : amM} {ci n idx pc nL : Nat} {R : Room} {As rest : List Value} {ls : Array Slot} {r : Value} {C : amS → Prop} {cc : ByteArray} {own : String}
    (hx : p.tables.exec = Jvm.exec) (hb : c.code = cc) (hml : c.maxLocals = nL) (hown : s.vm.findClass own = some m.cls) (hT : am_T s) (hK : va_K D vwCl (am_tys h ca) s) (inj : ∀ i j, i < h.length → j < h.length → ad i = ad j → i = j) (hA : ∀ q, am_A h ad q → A q) (hP : va_P D vwCl (am_world h ad ca S) H) (hP2 : va_P D vwCl (am_world h2 ad2 ca2 S2) H) (hdis : ∀ i j, i < h.length → j < h2.length → ad i ≠ ad2 j) (hS : va_S A H0 H locs) (hls : ls.size = nL)
    (hd : decode cc pc = .ok (.invokevirtual idx, 3)) (hl : Cond.methodLink own idx N.1 ∈ lw_tbl) (hN : am_NV N ci n) (hkd : am_kind h 0 = some ci) (hn : As.length = n) (hpk : (Value.ref 0 :: As).all am_pk = true) (hwd : am_wd (Value.ref 0 :: As) ≤ N.2.2.1) (hAs : As.map (am_cv ad) = As) (hr : am_cv ad r = r) (hfr : N.2.2.2.2.1 + 1 ≤ R.frames) (hlo : 8 + (N.2.2.1 + 11) + N.2.2.2.2.2 ≤ R.locals) (hrest : (rest.map fun v => v.category).sum ≤ 8) (hcs : cells ≤ R.cells ∧ slots ≤ R.slots)
    (hX : X h N 0 (am_ent N.2.2.1 (.ref 0 :: As)) [] S (fun v S' => v = some r ∧ C S'))
    (kk : ∀ (S' : amS) (H1 : Heap) (locs1 : List Loc), C S' → va_P D vwCl (am_world h ad ca S') H1 → va_P D vwCl (am_world h2 ad2 ca2 S2) H1 → va_S A H0 H1 locs1 → W p l e R s m args below meth c H1 locs1 cells slots QQ (F0 m (pc + 3) ls (r :: rest))) :
    W p l e R s m args below meth c H locs cells slots QQ (F0 m pc ls (As.reverse ++ .ref (ad 0) :: rest)) := by
  obtain ⟨hy, hcode, hini, hnm, hin, hsel, T, k, hcl⟩ := hN
  have hM := am_met hX hy hpk hwd l D ad ca inj
  have hB : CallB R s args own idx N.1 N.2.1 N.2.2.1 N.2.2.2.1 (am_ws N) (am_rm N) 0 0 n := callB_of n (am_wsT hT hcode) (am_goodIn N) rfl rfl rfl (hT.at hini rfl args) (hT.at hl rfl args) hnm ⟨hfr, hlo⟩
  obtain ⟨tpl, hsh⟩ : ∃ tpl, h[0]? = some (.inr (ci, tpl)) := by
    unfold am_kind at hkd
    rw [am_shp_get] at hkd
    cases e1 : h[0]? with
    | none => rw [e1] at hkd; cases hkd
    | some sh =>
      rw [e1] at hkd
      cases sh with
      | inl a => cases hkd
      | inr a => cases hkd; exact ⟨a.2, rfl⟩
  have hpre : PreV s H N.1.cls (ad 0) (am_Pc h D ad ca S (.ref 0 :: As)) (As.map (am_cv ad)) := ⟨am_blind, va_recv hK hP (ci := ci) (q0 := 0) hcl (am_world_get hsh), (am_pre hP hK hT).2⟩
  have hrun := va_runV (As := As.map (am_cv ad)) (rest := rest) (g := F0 m pc ls (As.reverse ++ .ref (ad 0) :: rest)) (locs := locs) (cells := cells) (slots := slots) (e := e) (below := below) (meth := meth) (Ts := []) ⟨hx, hb, hml, hown, fun _ z => absurd z List.not_mem_nil⟩ hM ⟨hB, hT.at hin rfl args, hT.at hsel rfl args⟩ hpre rfl (by rw [List.length_map]; exact hn) hls (by rw [hAs]) (lv_room hrest) hd hcs
  refine am_after hrun hS hA (fun v S' H1 locs1 hq hP1 _ hk hS1 => ?_)
  obtain ⟨rfl, hC⟩ := hq
  have hst : ((some r).map (am_cv ad)).toList ++ rest = r :: rest := by simp [hr]
  rw [hst]
  refine kk S' H1 locs1 hC hP1 (hP2.kept (fun k q hq => hk q.1 (hP2 k q hq).lt ?_)) hS1
  rintro ⟨i, hi, e1⟩
  have hk2 : k < h2.length := by rw [← am_world_len (ad := ad2) (ca := ca2) (S := S2)]; exact (List.getElem?_eq_some_iff.mp hq).1
  have e2 : h2[k]? = some h2[k] := by simp [hk2]
  rw [am_world_get e2] at hq
  cases hq
  exact hdis i k hi hk2 e1.symm
section ZR
variable {L : Nat} {xs : Nat → Int32} {i pc : Nat} {st : List Value} {SX SM : amS}
theorem z_a1 (hd : decode code pc = .ok (.aload_n 1, 1)) (kk : Z L xs i (pc + 1) (.ref 0 :: st) SX SM) : Z L xs i pc st SX SM := by
  intro p l e s m below meth c b D adX caX adM caM H locs ls hC hL hP hQ hS
  obtain ⟨⟨hx, hb, hr, hml, hown, hT, hlk⟩, ⟨hX, hbl⟩, ⟨hKX, injX, hAX⟩, ⟨hKM, injM, hAM⟩, hdis⟩ := (show _ from hC)
  exact lv_aload_n hx hb hd rfl (lv_at hL 2 rfl) (kk p l e s m below meth c b D adX caX adM caM H locs ls hC hL hP hQ hS)
theorem z_a2 (hd : decode code pc = .ok (.aload_n 2, 1)) (kk : Z L xs i (pc + 1) (.ref 1 :: st) SX SM) : Z L xs i pc st SX SM := by
  intro p l e s m below meth c b D adX caX adM caM H locs ls hC hL hP hQ hS
  obtain ⟨⟨hx, hb, hr, hml, hown, hT, hlk⟩, ⟨hX, hbl⟩, ⟨hKX, injX, hAX⟩, ⟨hKM, injM, hAM⟩, hdis⟩ := (show _ from hC)
  exact lv_aload_n hx hb hd rfl (lv_at hL 1 rfl) (kk p l e s m below meth c b D adX caX adM caM H locs ls hC hL hP hQ hS)
/-- script[i + k] -/
theorem z_arg (k : Nat) (z : Int) (hz : Int32.ofInt z = nI k) (hik : i + k < L) (hL0 : L ≤ 2560) (d0 : decode code pc = .ok (.aload_n 0, 1)) (d1 : decode code (pc + 1) = .ok (.iload_n 3, 1)) (d2 : decode code (pc + 1 + 1) = .ok (.iconst z, 1)) (d3 : decode code (pc + 1 + 1 + 1) = .ok (.iadd, 1)) (d4 : decode code (pc + 1 + 1 + 1 + 1) = .ok (.iaload, 1)) (kk : Z L xs i (pc + 5) (.int (xs (i + k)) :: st) SX SM) : Z L xs i pc st SX SM := by
  intro p l e s m below meth c b D adX caX adM caM H locs ls hC hL hP hQ hS
  obtain ⟨⟨hx, hb, hr, hml, hown, hT, hlk⟩, ⟨hX, hbl⟩, ⟨hKX, injX, hAX⟩, ⟨hKM, injM, hAM⟩, hdis⟩ := (show _ from hC)
  refine lv_aload_n hx hb d0 rfl (lv_at hL 3 rfl) ?_
  refine lv_iload_n hx hb d1 rfl (lv_at hL 0 rfl) ?_
  refine lv_iconst hx hb d2 hz ?_
  refine lv_iadd hx hb d3 ?_
  rw [nI_add]
  refine va_sld hx hb hX hbl (Nat.not_le.mpr hbl) hS (vp_in_nI hik (by omega)) d4 ?_
  rw [nI_clamp (by omega)]
  exact kk p l e s m below meth c b D adX caX adM caM H locs ls hC hL hP hQ hS
/-- script[i] -/
theorem z_arg0 (hik : i < L) (hL0 : L ≤ 2560) (d0 : decode code pc = .ok (.aload_n 0, 1)) (d1 : decode code (pc + 1) = .ok (.iload_n 3, 1)) (d4 : decode code (pc + 1 + 1) = .ok (.iaload, 1)) (kk : Z L xs i (pc + 3) (.int (xs i) :: st) SX SM) : Z L xs i pc st SX SM := by
  intro p l e s m below meth c b D adX caX adM caM H locs ls hC hL hP hQ hS
  obtain ⟨⟨hx, hb, hr, hml, hown, hT, hlk⟩, ⟨hX, hbl⟩, ⟨hKX, injX, hAX⟩, ⟨hKM, injM, hAM⟩, hdis⟩ := (show _ from hC)
  refine lv_aload_n hx hb d0 rfl (lv_at hL 3 rfl) ?_
  refine lv_iload_n hx hb d1 rfl (lv_at hL 0 rfl) ?_
  refine va_sld hx hb hX hbl (Nat.not_le.mpr hbl) hS (vp_in_nI hik (by omega)) d4 ?_
  rw [nI_clamp (by omega)]
  exact kk p l e s m below meth c b D adX caX adM caM H locs ls hC hL hP hQ hS
theorem z_bipush {z : Int} (v : Int32) (hd : decode code pc = .ok (.bipush z, 2)) (hv : (Int8.ofInt z).toInt32 = v) (kk : Z L xs i (pc + 2) (.int v :: st) SX SM) : Z L xs i pc st SX SM := by
  intro p l e s m below meth c b D adX caX adM caM H locs ls hC hL hP hQ hS
  obtain ⟨⟨hx, hb, hr, hml, hown, hT, hlk⟩, ⟨hX, hbl⟩, ⟨hKX, injX, hAX⟩, ⟨hKM, injM, hAM⟩, hdis⟩ := (show _ from hC)
  exact lv_bipush hx hb hd hv (kk p l e s m below meth c b D adX caX adM caM H locs ls hC hL hP hQ hS)
theorem z_iand {x y : Int32} (hd : decode code pc = .ok (.iand, 1)) (kk : Z L xs i (pc + 1) (.int (x &&& y) :: st) SX SM) : Z L xs i pc (.int y :: .int x :: st) SX SM := by
  intro p l e s m below meth c b D adX caX adM caM H locs ls hC hL hP hQ hS
  obtain ⟨⟨hx, hb, hr, hml, hown, hT, hlk⟩, ⟨hX, hbl⟩, ⟨hKX, injX, hAX⟩, ⟨hKM, injM, hAM⟩, hdis⟩ := (show _ from hC)
  exact lv_iand hx hb hd (kk p l e s m below meth c b D adX caX adM caM H locs ls hC hL hP hQ hS)
theorem z_tabI {dflt : Int} {offs : Array Int} {len : Nat} {off : Int} (k tgt : Nat) (hd : decode code pc = .ok (.tableswitch dflt 0 30 offs, len)) (hk : k ≤ 30) (ho : offs[k]? = some off) (ht : (pc : Int) + off = (tgt : Int)) (kk : Z L xs i tgt st SX SM) : Z L xs i pc (.int (nI k) :: st) SX SM := by
  intro p l e s m below meth c b D adX caX adM caM H locs ls hC hL hP hQ hS
  obtain ⟨⟨hx, hb, hr, hml, hown, hT, hlk⟩, ⟨hX, hbl⟩, ⟨hKX, injX, hAX⟩, ⟨hKM, injM, hAM⟩, hdis⟩ := (show _ from hC)
  have hz : (nI k).toInt = (k : Int) := nI_toInt (by omega)
  exact lv_tableIn hx hb hd (by rw [hz]; omega) (by rw [hz]; omega) (by rw [hz, show ((k : Int) - 0).toNat = k by omega]; exact ho) ht (kk p l e s m below meth c b D adX caX adM caM H locs ls hC hL hP hQ hS)
theorem z_tabO {dflt : Int} {offs : Array Int} {len : Nat} (k tgt : Nat) (hd : decode code pc = .ok (.tableswitch dflt 0 30 offs, len)) (hk : 30 < k) (hk2 : k < 32) (ht : (pc : Int) + dflt = (tgt : Int)) (kk : Z L xs i tgt st SX SM) : Z L xs i pc (.int (nI k) :: st) SX SM := by
  intro p l e s m below meth c b D adX caX adM caM H locs ls hC hL hP hQ hS
  obtain ⟨⟨hx, hb, hr, hml, hown, hT, hlk⟩, ⟨hX, hbl⟩, ⟨hKX, injX, hAX⟩, ⟨hKM, injM, hAM⟩, hdis⟩ := (show _ from hC)
  have hz : (nI k).toInt = (k : Int) := nI_toInt (by omega)
  exact lv_tableOut hx hb hd (Or.inr (by rw [hz]; omega)) ht (kk p l e s m below meth c b D adX caX adM caM H locs ls hC hL hP hQ hS)
theorem z_eq {x : Int32} {off : Int} (tgt : Nat) (hd : decode code pc = .ok (.if_icmp .eq off, 3)) (ht : (pc : Int) + off = (tgt : Int)) (kk : Z L xs i tgt st SX SM) : Z L xs i pc (.int x :: .int x :: st) SX SM := by
  intro p l e s m below meth c b D adX caX adM caM H locs ls hC hL hP hQ hS
  obtain ⟨⟨hx, hb, hr, hml, hown, hT, hlk⟩, ⟨hX, hbl⟩, ⟨hKX, injX, hAX⟩, ⟨hKM, injM, hAM⟩, hdis⟩ := (show _ from hC)
  exact lv_icmp_eq hx hb hd ht (fun _ => kk p l e s m below meth c b D adX caX adM caM H locs ls hC hL hP hQ hS) (fun z => absurd rfl z)
theorem z_lcmp {x : Int64} (hd : decode code pc = .ok (.lcmp, 1)) (kk : Z L xs i (pc + 1) (.int 0 :: st) SX SM) : Z L xs i pc (.long x :: .long x :: st) SX SM := by
  intro p l e s m below meth c b D adX caX adM caM H locs ls hC hL hP hQ hS
  obtain ⟨⟨hx, hb, hr, hml, hown, hT, hlk⟩, ⟨hX, hbl⟩, ⟨hKX, injX, hAX⟩, ⟨hKM, injM, hAM⟩, hdis⟩ := (show _ from hC)
  refine W.lcmp hx hb hd ?_
  have h0 : lg_cmp x x = 0 := by simp [lg_cmp]
  rw [h0]
  exact kk p l e s m below meth c b D adX caX adM caM H locs ls hC hL hP hQ hS
theorem z_if0 {off : Int} (tgt : Nat) (hd : decode code pc = .ok (.ifCond .eq off, 3)) (ht : (pc : Int) + off = (tgt : Int)) (kk : Z L xs i tgt st SX SM) : Z L xs i pc (.int 0 :: st) SX SM := by
  intro p l e s m below meth c b D adX caX adM caM H locs ls hC hL hP hQ hS
  obtain ⟨⟨hx, hb, hr, hml, hown, hT, hlk⟩, ⟨hX, hbl⟩, ⟨hKX, injX, hAX⟩, ⟨hKM, injM, hAM⟩, hdis⟩ := (show _ from hC)
  exact lv_if_eq hx hb hd ht (fun _ => kk p l e s m below meth c b D adX caX adM caM H locs ls hC hL hP hQ hS) (fun z => absurd rfl z)
theorem z_next (kk : Z L xs (i + 5) 18 [] SX SM) : Z L xs i 996 [] SX SM := by
  intro p l e s m below meth c b D adX caX adM caM H locs ls hC hL hP hQ hS
  obtain ⟨⟨hx, hb, hr, hml, hown, hT, hlk⟩, ⟨hX, hbl⟩, ⟨hKX, injX, hAX⟩, ⟨hKM, injM, hAM⟩, hdis⟩ := (show _ from hC)
  refine lv_iinc (k := 0) (v := nI (i + 5)) (lv' := [(3, .int (nI (i + 5))), (2, .ref (adM 0)), (1, .ref (adX 0)), (0, .ref b)]) hx hb dL_law_996 hL rfl (nI_add i 5) (by decide) rfl (fun ls hL => ?_)
  refine lv_goto (tgt := 18) hx hb dL_law_999 (by decide) ?_
  exact kk p l e s m below meth c b D adX caX adM caM H locs ls hC hL hP hQ hS
theorem z_end : Z L xs i 1002 [] SX SM := by
  intro p l e s m below meth c b D adX caX adM caM H locs ls hC hL hP hQ hS
  obtain ⟨⟨hx, hb, hr, hml, hown, hT, hlk⟩, ⟨hX, hbl⟩, ⟨hKX, injX, hAX⟩, ⟨hKM, injM, hAM⟩, hdis⟩ := (show _ from hC)
  refine lv_iconst (v := 1) hx hb dL_law_1002 (by decide +kernel) ?_
  refine va_forget (fun q hq => hS.2.2 q hq) ?_
  refine W.widen (k := 600000) (n := 7302250) (Nat.le_of_ble_eq_true rfl) (Nat.le_of_ble_eq_true rfl) ?_
  exact lw_ret hx hb hr hlk dL_law_1003
/-- the loop's head -/
theorem z_head (hi : i ≤ L) (hL0 : L ≤ 2560) (k1 : ¬ i + 5 ≤ L → Z L xs i 1002 [] SX SM) (k2 : i + 5 ≤ L → Z L xs i 26 [] SX SM) : Z L xs i 18 [] SX SM := by
  intro p l e s m below meth c b D adX caX adM caM H locs ls hC hL hP hQ hS
  obtain ⟨⟨hx, hb, hr, hml, hown, hT, hlk⟩, ⟨hX, hbl⟩, ⟨hKX, injX, hAX⟩, ⟨hKM, injM, hAM⟩, hdis⟩ := (show _ from hC)
  refine lv_iload_n hx hb dL_law_18 rfl (lv_at hL 0 rfl) ?_
  refine lv_aload_n hx hb dL_law_19 rfl (lv_at hL 3 rfl) ?_
  refine va_slen hx hb hX hbl (Nat.not_le.mpr hbl) hS dL_law_20 ?_
  refine lv_iconst (v := i32 5) hx hb dL_law_21 rfl ?_
  refine lv_isub hx hb dL_law_22 ?_
  have e1 : Int32.ofNat L - i32 5 = i32 ((L : Int) - 5) := by
    have e2 : Int32.ofNat L = i32 (L : Int) := nI_i32 L
    rw [e2, i32_sub]
  rw [e1]
  refine lv_icmp_gt (tgt := 1002) hx hb dL_law_23 (by decide) (fun z => ?_) (fun z => ?_)
  · rw [nI_i32, i32_lt (by omega) (by omega)] at z
    exact k1 (by omega) p l e s m below meth c b D adX caX adM caM H locs ls hC hL hP hQ hS
  · rw [nI_i32, i32_lt (by omega) (by omega)] at z
    exact k2 (by omega) p l e s m below meth c b D adX caX adM caM H locs ls hC hL hP hQ hS
theorem z_mask (x : Int32) : ∃ k, k < 32 ∧ x &&& nI 31 = nI k := by
  have e : x = nI x.toBitVec.toNat := by
    apply Int32.toBitVec_inj.1
    show x.toBitVec = BitVec.ofNat 32 x.toBitVec.toNat
    simp
  refine ⟨x.toBitVec.toNat &&& 31, ?_, ?_⟩
  · exact Nat.lt_of_le_of_lt Nat.and_le_right (by decide)
  · conv => lhs; rw [e]
    rw [nI_and]
theorem z_cX0 {N : amM} {idx : Nat} {r : Value} {C : amS → Prop} (hd : decode code pc = .ok (.invokevirtual idx, 3)) (hl : Cond.methodLink RL idx N.1 ∈ lw_tbl) (hN : am_NV N 10 0) (hwd : Nat.ble 1 N.2.2.1 = true) (hr : ∀ ad, am_cv ad r = r) (hfr : Nat.ble (N.2.2.2.2.1 + 1) 10 = true) (hlo : Nat.ble (8 + (N.2.2.1 + 11) + N.2.2.2.2.2) 414 = true) (hst : am_wd st ≤ 8) (hX : X shX N 0 (am_ent N.2.2.1 (.ref 0 :: [])) [] SX (fun v S' => v = some r ∧ C S')) (kk : ∀ S' : amS, C S' → Z L xs i (pc + 3) (r :: st) S' SM) : Z L xs i pc (.ref 0 :: st) SX SM := by
  intro p l e s m below meth c b D adX caX adM caM H locs ls hC hL hP hQ hS
  obtain ⟨⟨hx, hb, hrt, hml, hown, hT, hlk⟩, ⟨hscr, hbl⟩, ⟨hKX, injX, hAX⟩, ⟨hKM, injM, hAM⟩, hdis⟩ := (show _ from hC)
  refine lw_call (As := []) (rest := st.map (am_cv (lw_ad adX adM))) (h := shX) (h2 := shM) (ad := adX) (ad2 := adM) (ca := caX) (ca2 := caM) (S := SX) (S2 := SM) hx hb hml hown hT hKX injX hAX hP hQ hdis hS hL.1 hd hl hN rfl rfl rfl (Nat.le_of_ble_eq_true hwd) rfl (hr adX) (Nat.le_of_ble_eq_true hfr) (Nat.le_of_ble_eq_true hlo) (by rw [am_wd_sum]; exact hst) ⟨Nat.le_of_ble_eq_true rfl, Nat.le_of_ble_eq_true rfl⟩ hX (fun S' H1 locs1 hq g1 g2 g3 => ?_)
  have hz := kk S' hq p l e s m below meth c b D adX caX adM caM H1 locs1 ls hC hL g1 g2 g3
  rw [List.map_cons, hr] at hz
  exact hz
theorem z_cM0 {N : amM} {idx : Nat} {r : Value} {C : amS → Prop} (hd : decode code pc = .ok (.invokevirtual idx, 3)) (hl : Cond.methodLink RL idx N.1 ∈ lw_tbl) (hN : am_NV N 11 0) (hwd : Nat.ble 1 N.2.2.1 = true) (hr : ∀ ad, am_cv ad r = r) (hfr : Nat.ble (N.2.2.2.2.1 + 1) 10 = true) (hlo : Nat.ble (8 + (N.2.2.1 + 11) + N.2.2.2.2.2) 414 = true) (hst : am_wd st ≤ 8) (hX : X shM N 0 (am_ent N.2.2.1 (.ref 0 :: [])) [] SM (fun v S' => v = some r ∧ C S')) (kk : ∀ S' : amS, C S' → Z L xs i (pc + 3) (r :: st) SX S') : Z L xs i pc (.ref 1 :: st) SX SM := by
  intro p l e s m below meth c b D adX caX adM caM H locs ls hC hL hP hQ hS
  obtain ⟨⟨hx, hb, hrt, hml, hown, hT, hlk⟩, ⟨hscr, hbl⟩, ⟨hKX, injX, hAX⟩, ⟨hKM, injM, hAM⟩, hdis⟩ := (show _ from hC)
  refine lw_call (As := []) (rest := st.map (am_cv (lw_ad adX adM))) (h := shM) (h2 := shX) (ad := adM) (ad2 := adX) (ca := caM) (ca2 := caX) (S := SM) (S2 := SX) hx hb hml hown hT hKM injM hAM hQ hP (fun i j hi hj z => hdis j i hj hi z.symm) hS hL.1 hd hl hN rfl rfl rfl (Nat.le_of_ble_eq_true hwd) rfl (hr adM) (Nat.le_of_ble_eq_true hfr) (Nat.le_of_ble_eq_true hlo) (by rw [am_wd_sum]; exact hst) ⟨Nat.le_of_ble_eq_true rfl, Nat.le_of_ble_eq_true rfl⟩ hX (fun S' H1 locs1 hq g1 g2 g3 => ?_)
  have hz := kk S' hq p l e s m below meth c b D adX caX adM caM H1 locs1 ls hC hL g2 g1 g3
  rw [List.map_cons, hr] at hz
  exact hz
theorem z_cX1 {N : amM} {idx : Nat} {x0 : Int32} {r : Value} {C : amS → Prop} (hd : decode code pc = .ok (.invokevirtual idx, 3)) (hl : Cond.methodLink RL idx N.1 ∈ lw_tbl) (hN : am_NV N 10 1) (hwd : Nat.ble 2 N.2.2.1 = true) (hr : ∀ ad, am_cv ad r = r) (hfr : Nat.ble (N.2.2.2.2.1 + 1) 10 = true) (hlo : Nat.ble (8 + (N.2.2.1 + 11) + N.2.2.2.2.2) 414 = true) (hst : am_wd st ≤ 8) (hX : X shX N 0 (am_ent N.2.2.1 (.ref 0 :: [.int x0])) [] SX (fun v S' => v = some r ∧ C S')) (kk : ∀ S' : amS, C S' → Z L xs i (pc + 3) (r :: st) S' SM) : Z L xs i pc (.int x0 :: .ref 0 :: st) SX SM := by
  intro p l e s m below meth c b D adX caX adM caM H locs ls hC hL hP hQ hS
  obtain ⟨⟨hx, hb, hrt, hml, hown, hT, hlk⟩, ⟨hscr, hbl⟩, ⟨hKX, injX, hAX⟩, ⟨hKM, injM, hAM⟩, hdis⟩ := (show _ from hC)
  refine lw_call (As := [.int x0]) (rest := st.map (am_cv (lw_ad adX adM))) (h := shX) (h2 := shM) (ad := adX) (ad2 := adM) (ca := caX) (ca2 := caM) (S := SX) (S2 := SM) hx hb hml hown hT hKX injX hAX hP hQ hdis hS hL.1 hd hl hN rfl rfl rfl (Nat.le_of_ble_eq_true hwd) rfl (hr adX) (Nat.le_of_ble_eq_true hfr) (Nat.le_of_ble_eq_true hlo) (by rw [am_wd_sum]; exact hst) ⟨Nat.le_of_ble_eq_true rfl, Nat.le_of_ble_eq_true rfl⟩ hX (fun S' H1 locs1 hq g1 g2 g3 => ?_)
  have hz := kk S' hq p l e s m below meth c b D adX caX adM caM H1 locs1 ls hC hL g1 g2 g3
  rw [List.map_cons, hr] at hz
  exact hz
theorem z_cM1 {N : amM} {idx : Nat} {x0 : Int32} {r : Value} {C : amS → Prop} (hd : decode code pc = .ok (.invokevirtual idx, 3)) (hl : Cond.methodLink RL idx N.1 ∈ lw_tbl) (hN : am_NV N 11 1) (hwd : Nat.ble 2 N.2.2.1 = true) (hr : ∀ ad, am_cv ad r = r) (hfr : Nat.ble (N.2.2.2.2.1 + 1) 10 = true) (hlo : Nat.ble (8 + (N.2.2.1 + 11) + N.2.2.2.2.2) 414 = true) (hst : am_wd st ≤ 8) (hX : X shM N 0 (am_ent N.2.2.1 (.ref 0 :: [.int x0])) [] SM (fun v S' => v = some r ∧ C S')) (kk : ∀ S' : amS, C S' → Z L xs i (pc + 3) (r :: st) SX S') : Z L xs i pc (.int x0 :: .ref 1 :: st) SX SM := by
  intro p l e s m below meth c b D adX caX adM caM H locs ls hC hL hP hQ hS
  obtain ⟨⟨hx, hb, hrt, hml, hown, hT, hlk⟩, ⟨hscr, hbl⟩, ⟨hKX, injX, hAX⟩, ⟨hKM, injM, hAM⟩, hdis⟩ := (show _ from hC)
  refine lw_call (As := [.int x0]) (rest := st.map (am_cv (lw_ad adX adM))) (h := shM) (h2 := shX) (ad := adM) (ad2 := adX) (ca := caM) (ca2 := caX) (S := SM) (S2 := SX) hx hb hml hown hT hKM injM hAM hQ hP (fun i j hi hj z => hdis j i hj hi z.symm) hS hL.1 hd hl hN rfl rfl rfl (Nat.le_of_ble_eq_true hwd) rfl (hr adM) (Nat.le_of_ble_eq_true hfr) (Nat.le_of_ble_eq_true hlo) (by rw [am_wd_sum]; exact hst) ⟨Nat.le_of_ble_eq_true rfl, Nat.le_of_ble_eq_true rfl⟩ hX (fun S' H1 locs1 hq g1 g2 g3 => ?_)
  have hz := kk S' hq p l e s m below meth c b D adX caX adM caM H1 locs1 ls hC hL g2 g1 g3
  rw [List.map_cons, hr] at hz
  exact hz
theorem z_cX2 {N : amM} {idx : Nat} {x0 x1 : Int32} {r : Value} {C : amS → Prop} (hd : decode code pc = .ok (.invokevirtual idx, 3)) (hl : Cond.methodLink RL idx N.1 ∈ lw_tbl) (hN : am_NV N 10 2) (hwd : Nat.ble 3 N.2.2.1 = true) (hr : ∀ ad, am_cv ad r = r) (hfr : Nat.ble (N.2.2.2.2.1 + 1) 10 = true) (hlo : Nat.ble (8 + (N.2.2.1 + 11) + N.2.2.2.2.2) 414 = true) (hst : am_wd st ≤ 8) (hX : X shX N 0 (am_ent N.2.2.1 (.ref 0 :: [.int x0, .int x1])) [] SX (fun v S' => v = some r ∧ C S')) (kk : ∀ S' : amS, C S' → Z L xs i (pc + 3) (r :: st) S' SM) : Z L xs i pc (.int x1 :: .int x0 :: .ref 0 :: st) SX SM := by
  intro p l e s m below meth c b D adX caX adM caM H locs ls hC hL hP hQ hS
  obtain ⟨⟨hx, hb, hrt, hml, hown, hT, hlk⟩, ⟨hscr, hbl⟩, ⟨hKX, injX, hAX⟩, ⟨hKM, injM, hAM⟩, hdis⟩ := (show _ from hC)
  refine lw_call (As := [.int x0, .int x1]) (rest := st.map (am_cv (lw_ad adX adM))) (h := shX) (h2 := shM) (ad := adX) (ad2 := adM) (ca := caX) (ca2 := caM) (S := SX) (S2 := SM) hx hb hml hown hT hKX injX hAX hP hQ hdis hS hL.1 hd hl hN rfl rfl rfl (Nat.le_of_ble_eq_true hwd) rfl (hr adX) (Nat.le_of_ble_eq_true hfr) (Nat.le_of_ble_eq_true hlo) (by rw [am_wd_sum]; exact hst) ⟨Nat.le_of_ble_eq_true rfl, Nat.le_of_ble_eq_true rfl⟩ hX (fun S' H1 locs1 hq g1 g2 g3 => ?_)
  have hz := kk S' hq p l e s m below meth c b D adX caX adM caM H1 locs1 ls hC hL g1 g2 g3
  rw [List.map_cons, hr] at hz
  exact hz
theorem z_cM2 {N : amM} {idx : Nat} {x0 x1 : Int32} {r : Value} {C : amS → Prop} (hd : decode code pc = .ok (.invokevirtual idx, 3)) (hl : Cond.methodLink RL idx N.1 ∈ lw_tbl) (hN : am_NV N 11 2) (hwd : Nat.ble 3 N.2.2.1 = true) (hr : ∀ ad, am_cv ad r = r) (hfr : Nat.ble (N.2.2.2.2.1 + 1) 10 = true) (hlo : Nat.ble (8 + (N.2.2.1 + 11) + N.2.2.2.2.2) 414 = true) (hst : am_wd st ≤ 8) (hX : X shM N 0 (am_ent N.2.2.1 (.ref 0 :: [.int x0, .int x1])) [] SM (fun v S' => v = some r ∧ C S')) (kk : ∀ S' : amS, C S' → Z L xs i (pc + 3) (r :: st) SX S') : Z L xs i pc (.int x1 :: .int x0 :: .ref 1 :: st) SX SM := by
  intro p l e s m below meth c b D adX caX adM caM H locs ls hC hL hP hQ hS
  obtain ⟨⟨hx, hb, hrt, hml, hown, hT, hlk⟩, ⟨hscr, hbl⟩, ⟨hKX, injX, hAX⟩, ⟨hKM, injM, hAM⟩, hdis⟩ := (show _ from hC)
  refine lw_call (As := [.int x0, .int x1]) (rest := st.map (am_cv (lw_ad adX adM))) (h := shM) (h2 := shX) (ad := adM) (ad2 := adX) (ca := caM) (ca2 := caX) (S := SM) (S2 := SX) hx hb hml hown hT hKM injM hAM hQ hP (fun i j hi hj z => hdis j i hj hi z.symm) hS hL.1 hd hl hN rfl rfl rfl (Nat.le_of_ble_eq_true hwd) rfl (hr adM) (Nat.le_of_ble_eq_true hfr) (Nat.le_of_ble_eq_true hlo) (by rw [am_wd_sum]; exact hst) ⟨Nat.le_of_ble_eq_true rfl, Nat.le_of_ble_eq_true rfl⟩ hX (fun S' H1 locs1 hq g1 g2 g3 => ?_)
  have hz := kk S' hq p l e s m below meth c b D adX caX adM caM H1 locs1 ls hC hL g2 g1 g3
  rw [List.map_cons, hr] at hz
  exact hz
theorem z_cX3 {N : amM} {idx : Nat} {x0 x1 x2 : Int32} {r : Value} {C : amS → Prop} (hd : decode code pc = .ok (.invokevirtual idx, 3)) (hl : Cond.methodLink RL idx N.1 ∈ lw_tbl) (hN : am_NV N 10 3) (hwd : Nat.ble 4 N.2.2.1 = true) (hr : ∀ ad, am_cv ad r = r) (hfr : Nat.ble (N.2.2.2.2.1 + 1) 10 = true) (hlo : Nat.ble (8 + (N.2.2.1 + 11) + N.2.2.2.2.2) 414 = true) (hst : am_wd st ≤ 8) (hX : X shX N 0 (am_ent N.2.2.1 (.ref 0 :: [.int x0, .int x1, .int x2])) [] SX (fun v S' => v = some r ∧ C S')) (kk : ∀ S' : amS, C S' → Z L xs i (pc + 3) (r :: st) S' SM) : Z L xs i pc (.int x2 :: .int x1 :: .int x0 :: .ref 0 :: st) SX SM := by
  intro p l e s m below meth c b D adX caX adM caM H locs ls hC hL hP hQ hS
  obtain ⟨⟨hx, hb, hrt, hml, hown, hT, hlk⟩, ⟨hscr, hbl⟩, ⟨hKX, injX, hAX⟩, ⟨hKM, injM, hAM⟩, hdis⟩ := (show _ from hC)
  refine lw_call (As := [.int x0, .int x1, .int x2]) (rest := st.map (am_cv (lw_ad adX adM))) (h := shX) (h2 := shM) (ad := adX) (ad2 := adM) (ca := caX) (ca2 := caM) (S := SX) (S2 := SM) hx hb hml hown hT hKX injX hAX hP hQ hdis hS hL.1 hd hl hN rfl rfl rfl (Nat.le_of_ble_eq_true hwd) rfl (hr adX) (Nat.le_of_ble_eq_true hfr) (Nat.le_of_ble_eq_true hlo) (by rw [am_wd_sum]; exact hst) ⟨Nat.le_of_ble_eq_true rfl, Nat.le_of_ble_eq_true rfl⟩ hX (fun S' H1 locs1 hq g1 g2 g3 => ?_)
  have hz := kk S' hq p l e s m below meth c b D adX caX adM caM H1 locs1 ls hC hL g1 g2 g3
  rw [List.map_cons, hr] at hz
  exact hz
theorem z_cM3 {N : amM} {idx : Nat} {x0 x1 x2 : Int32} {r : Value} {C : amS → Prop} (hd : decode code pc = .ok (.invokevirtual idx, 3)) (hl : Cond.methodLink RL idx N.1 ∈ lw_tbl) (hN : am_NV N 11 3) (hwd : Nat.ble 4 N.2.2.1 = true) (hr : ∀ ad, am_cv ad r = r) (hfr : Nat.ble (N.2.2.2.2.1 + 1) 10 = true) (hlo : Nat.ble (8 + (N.2.2.1 + 11) + N.2.2.2.2.2) 414 = true) (hst : am_wd st ≤ 8) (hX : X shM N 0 (am_ent N.2.2.1 (.ref 0 :: [.int x0, .int x1, .int x2])) [] SM (fun v S' => v = some r ∧ C S')) (kk : ∀ S' : amS, C S' → Z L xs i (pc + 3) (r :: st) SX S') : Z L xs i pc (.int x2 :: .int x1 :: .int x0 :: .ref 1 :: st) SX SM := by
  intro p l e s m below meth c b D adX caX adM caM H locs ls hC hL hP hQ hS
  obtain ⟨⟨hx, hb, hrt, hml, hown, hT, hlk⟩, ⟨hscr, hbl⟩, ⟨hKX, injX, hAX⟩, ⟨hKM, injM, hAM⟩, hdis⟩ := (show _ from hC)
  refine lw_call (As := [.int x0, .int x1, .int x2]) (rest := st.map (am_cv (lw_ad adX adM))) (h := shM) (h2 := shX) (ad := adM) (ad2 := adX) (ca := caM) (ca2 := caX) (S := SM) (S2 := SX) hx hb hml hown hT hKM injM hAM hQ hP (fun i j hi hj z => hdis j i hj hi z.symm) hS hL.1 hd hl hN rfl rfl rfl (Nat.le_of_ble_eq_true hwd) rfl (hr adM) (Nat.le_of_ble_eq_true hfr) (Nat.le_of_ble_eq_true hlo) (by rw [am_wd_sum]; exact hst) ⟨Nat.le_of_ble_eq_true rfl, Nat.le_of_ble_eq_true rfl⟩ hX (fun S' H1 locs1 hq g1 g2 g3 => ?_)
  have hz := kk S' hq p l e s m below meth c b D adX caX adM caM H1 locs1 ls hC hL g2 g1 g3
  rw [List.map_cons, hr] at hz
  exact hz
theorem z_cX4 {N : amM} {idx : Nat} {x0 x1 x2 x3 : Int32} {r : Value} {C : amS → Prop} (hd : decode code pc = .ok (.invokevirtual idx, 3)) (hl : Cond.methodLink RL idx N.1 ∈ lw_tbl) (hN : am_NV N 10 4) (hwd : Nat.ble 5 N.2.2.1 = true) (hr : ∀ ad, am_cv ad r = r) (hfr : Nat.ble (N.2.2.2.2.1 + 1) 10 = true) (hlo : Nat.ble (8 + (N.2.2.1 + 11) + N.2.2.2.2.2) 414 = true) (hst : am_wd st ≤ 8) (hX : X shX N 0 (am_ent N.2.2.1 (.ref 0 :: [.int x0, .int x1, .int x2, .int x3])) [] SX (fun v S' => v = some r ∧ C S')) (kk : ∀ S' : amS, C S' → Z L xs i (pc + 3) (r :: st) S' SM) : Z L xs i pc (.int x3 :: .int x2 :: .int x1 :: .int x0 :: .ref 0 :: st) SX SM := by
  intro p l e s m below meth c b D adX caX adM caM H locs ls hC hL hP hQ hS
  obtain ⟨⟨hx, hb, hrt, hml, hown, hT, hlk⟩, ⟨hscr, hbl⟩, ⟨hKX, injX, hAX⟩, ⟨hKM, injM, hAM⟩, hdis⟩ := (show _ from hC)
  refine lw_call (As := [.int x0, .int x1, .int x2, .int x3]) (rest := st.map (am_cv (lw_ad adX adM))) (h := shX) (h2 := shM) (ad := adX) (ad2 := adM) (ca := caX) (ca2 := caM) (S := SX) (S2 := SM) hx hb hml hown hT hKX injX hAX hP hQ hdis hS hL.1 hd hl hN rfl rfl rfl (Nat.le_of_ble_eq_true hwd) rfl (hr adX) (Nat.le_of_ble_eq_true hfr) (Nat.le_of_ble_eq_true hlo) (by rw [am_wd_sum]; exact hst) ⟨Nat.le_of_ble_eq_true rfl, Nat.le_of_ble_eq_true rfl⟩ hX (fun S' H1 locs1 hq g1 g2 g3 => ?_)
  have hz := kk S' hq p l e s m below meth c b D adX caX adM caM H1 locs1 ls hC hL g1 g2 g3
  rw [List.map_cons, hr] at hz
  exact hz
theorem z_cM4 {N : amM} {idx : Nat} {x0 x1 x2 x3 : Int32} {r : Value} {C : amS → Prop} (hd : decode code pc = .ok (.invokevirtual idx, 3)) (hl : Cond.methodLink RL idx N.1 ∈ lw_tbl) (hN : am_NV N 11 4) (hwd : Nat.ble 5 N.2.2.1 = true) (hr : ∀ ad, am_cv ad r = r) (hfr : Nat.ble (N.2.2.2.2.1 + 1) 10 = true) (hlo : Nat.ble (8 + (N.2.2.1 + 11) + N.2.2.2.2.2) 414 = true) (hst : am_wd st ≤ 8) (hX : X shM N 0 (am_ent N.2.2.1 (.ref 0 :: [.int x0, .int x1, .int x2, .int x3])) [] SM (fun v S' => v = some r ∧ C S')) (kk : ∀ S' : amS, C S' → Z L xs i (pc + 3) (r :: st) SX S') : Z L xs i pc (.int x3 :: .int x2 :: .int x1 :: .int x0 :: .ref 1 :: st) SX SM := by
  intro p l e s m below meth c b D adX caX adM caM H locs ls hC hL hP hQ hS
  obtain ⟨⟨hx, hb, hrt, hml, hown, hT, hlk⟩, ⟨hscr, hbl⟩, ⟨hKX, injX, hAX⟩, ⟨hKM, injM, hAM⟩, hdis⟩ := (show _ from hC)
  refine lw_call (As := [.int x0, .int x1, .int x2, .int x3]) (rest := st.map (am_cv (lw_ad adX adM))) (h := shM) (h2 := shX) (ad := adM) (ad2 := adX) (ca := caM) (ca2 := caX) (S := SM) (S2 := SX) hx hb hml hown hT hKM injM hAM hQ hP (fun i j hi hj z => hdis j i hj hi z.symm) hS hL.1 hd hl hN rfl rfl rfl (Nat.le_of_ble_eq_true hwd) rfl (hr adM) (Nat.le_of_ble_eq_true hfr) (Nat.le_of_ble_eq_true hlo) (by rw [am_wd_sum]; exact hst) ⟨Nat.le_of_ble_eq_true rfl, Nat.le_of_ble_eq_true rfl⟩ hX (fun S' H1 locs1 hq g1 g2 g3 => ?_)
  have hz := kk S' hq p l e s m below meth c b D adX caX adM caM H1 locs1 ls hC hL g2 g1 g3
  rw [List.map_cons, hr] at hz
  exact hz
end ZR
