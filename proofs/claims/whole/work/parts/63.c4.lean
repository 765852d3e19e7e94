/-! THE CLASS: its state, history, ends of changes -/
def laidX (S : amS) (N : Nat) (v : Nat → Row) : Prop := (∀ t, t < 2 ^ N → S.2.1 22 t = nI (rkV v t)) ∧ (∀ t, t < 2 ^ N → S.2.1 23 t = zB (flB (rkV v) N t)) ∧ LsX S 24 25 (ringsB v N 5)
def laidR (S : amS) (N : Nat) (v : Nat → Row) : Prop := (∀ t, t < 2 ^ N → S.2.1 30 t = zB (ptB v N t)) ∧ LsX S 32 33 (regL v N)
def laidE0 (S : amS) (N : Nat) (v : Nat → Row) : Prop := (∀ t, t < 2 ^ N → S.2.1 35 t = zB (flB (rkV v) N t && evB (rkV v) N t (2 ^ N))) ∧ (∀ t, t < 2 ^ N → S.2.1 36 t = zB (flB (rkV v) N t && goX (rkV v) N (rkV v (2 ^ N - 1)) (rkV v (2 ^ N - 1) - rkV v t) t)) ∧ (goX (rkV v) N (rkV v (2 ^ N - 1)) (rkV v (2 ^ N - 1)) 0 = true → ∀ k, k ≤ rkV v (2 ^ N - 1) → S.2.1 37 k = nI (lkB (rkV v) N (rkV v (2 ^ N - 1)) k))
def laidE (S : amS) (N : Nat) (v : Nat → Row) : Prop := laidX S N v ∧ laidE0 S N v
/-- a circuit whose broken circuit is in the set; 0: none -/
def brOK (L : List Nat) (t c : Nat) : Prop := (c = 0 ∧ ∀ d ∈ L, ¬ ((d &&& (d - 1)) ^^^ ((d &&& (d - 1)) &&& t)) = 0) ∨ (c ∈ L ∧ ((c &&& (c - 1)) ^^^ ((c &&& (c - 1)) &&& t)) = 0)
def laidA (S : amS) (N : Nat) (v : Nat → Row) : Prop := ∀ t, t < 2 ^ N → ∃ c, S.2.1 43 t = nI c ∧ brOK (ringsB v N 5) t c
def seenX (S : amS) (o k V : Nat) (P : Prop) : Prop := ∃ w : Int, -1 ≤ w ∧ w ≤ V ∧ S.1 o k = i32 w ∧ (w = V → P)
def tabsX (S : amS) (V : Nat) (a : Ar) : Prop := seenX S 19 7 V (laidX S a.2.1 a.2.2) ∧ seenX S 29 5 V (laidR S a.2.1 a.2.2) ∧ seenX S 34 5 V (laidE S a.2.1 a.2.2) ∧ seenX S 42 5 V (laidA S a.2.1 a.2.2)
def rgP (nx l k : Nat) : Nat := (nx + 6 - l + k) % 6
def histX (S : amS) (hs : List Ar) : Prop := ∃ nx, nx < 6 ∧ S.1 5 1 = nI nx ∧ S.1 5 2 = nI hs.length ∧ hs.length ≤ 6 ∧ ∀ (k : Nat) (b : Ar), hs[k]? = some b → Arr b.1 b.2.1 b.2.2 ∧ aObj S (7 + 2 * rgP nx hs.length k) (8 + 2 * rgP nx hs.length k) b
def txtX (S : amS) (tx : List Nat) : Prop := S.1 47 3 = nI tx.length ∧ tx.length ≤ 100 ∧ ∀ (k b : Nat), tx[k]? = some b → b ≤ 127 ∧ S.2.1 48 k = nI b
def restX (S : amS) (hs : List Ar) (tx : List Nat) (u0 u1 u2 ck co : Int32) : Prop := histX S hs ∧ (S.1 0 9 = u0 ∧ S.1 0 10 = u1 ∧ S.1 0 11 = u2) ∧ txtX S tx ∧ S.1 0 12 = ck ∧ S.1 0 13 = co
def xCore (S : amS) (B : Nat) (a : Ar) (hs : List Ar) (tx : List Nat) (u0 u1 u2 ck co : Int32) : Prop := (Arr a.1 a.2.1 a.2.2 ∧ aObj S 1 2 a) ∧ restX S hs tx u0 u1 u2 ck co ∧ ∃ V, V ≤ B ∧ S.1 1 3 = nI V ∧ tabsX S V a
/-- within a change: a before it, b now -/
def xMid (S : amS) (B : Nat) (a b : Ar) (hs : List Ar) (tx : List Nat) (u0 u1 u2 ck co : Int32) : Prop := (Arr a.1 a.2.1 a.2.2 ∧ aObj S 3 4 a) ∧ xCore S B b hs tx u0 u1 u2 ck co
theorem seenX.new {S S' : amS} {o k V V' : Nat} {P Q : Prop} (h : seenX S o k V P) (hS : S'.1 o = S.1 o) (hV : V < V') : seenX S' o k V' Q := by
  obtain ⟨w, h1, h2, h3, h4⟩ := h
  exact ⟨w, h1, by omega, by rw [hS]; exact h3, fun z => by omega⟩
theorem seenX.fo {S S' : amS} {o k V : Nat} {P Q : Prop} (h : seenX S o k V P) (hS : S'.1 o = S.1 o) (hP : P → Q) : seenX S' o k V Q := by
  obtain ⟨w, h1, h2, h3, h4⟩ := h
  exact ⟨w, h1, h2, by rw [hS]; exact h3, fun z => hP (h4 z)⟩
theorem laidX.fo {os rs : List Nat} {S S' : amS} {N : Nat} {v : Nat → Row} (h : laidX S N v) (f : FO os rs S S') (h1 : 24 ∉ os) (h2 : 22 ∉ rs ∧ 23 ∉ rs ∧ 25 ∉ rs) : laidX S' N v := by
  unfold laidX LsX at h ⊢
  rw [f.1 24 h1, f.2.1 22 h2.1, f.2.1 23 h2.2.1, f.2.1 25 h2.2.2]
  exact h
theorem laidR.fo {os rs : List Nat} {S S' : amS} {N : Nat} {v : Nat → Row} (h : laidR S N v) (f : FO os rs S S') (h1 : 32 ∉ os) (h2 : 30 ∉ rs ∧ 33 ∉ rs) : laidR S' N v := by
  unfold laidR LsX at h ⊢
  rw [f.1 32 h1, f.2.1 30 h2.1, f.2.1 33 h2.2]
  exact h
theorem laidE0.fo {os rs : List Nat} {S S' : amS} {N : Nat} {v : Nat → Row} (h : laidE0 S N v) (f : FO os rs S S') (h2 : 35 ∉ rs ∧ 36 ∉ rs ∧ 37 ∉ rs) : laidE0 S' N v := by
  unfold laidE0 at h ⊢
  rw [f.2.1 35 h2.1, f.2.1 36 h2.2.1, f.2.1 37 h2.2.2]
  exact h
theorem laidE.mt {os rs : List Nat} {S S' : amS} {N : Nat} {v : Nat → Row} (h : laidE S N v) (f : FO os rs S S') (h2 : 35 ∉ rs ∧ 36 ∉ rs ∧ 37 ∉ rs) (hl : laidX S' N v) : laidE S' N v := ⟨hl, h.2.fo f h2⟩
theorem laidE.fo {os rs : List Nat} {S S' : amS} {N : Nat} {v : Nat → Row} (h : laidE S N v) (f : FO os rs S S') (h1 : 24 ∉ os) (h3 : 22 ∉ rs ∧ 23 ∉ rs ∧ 25 ∉ rs) (h2 : 35 ∉ rs ∧ 36 ∉ rs ∧ 37 ∉ rs) : laidE S' N v := h.mt f h2 (h.1.fo f h1 h3)
theorem laidA.fo {os rs : List Nat} {S S' : amS} {N : Nat} {v : Nat → Row} (h : laidA S N v) (f : FO os rs S S') (h2 : 43 ∉ rs) : laidA S' N v := by
  unfold laidA at h ⊢
  rw [f.2.1 43 h2]
  exact h
theorem tabsX.fo {os rs : List Nat} {S S' : amS} {V : Nat} {a : Ar} (h : tabsX S V a) (f : FO os rs S S') (h1 : 19 ∉ os ∧ 29 ∉ os ∧ 34 ∉ os ∧ 42 ∉ os ∧ 24 ∉ os ∧ 32 ∉ os) (h2 : 22 ∉ rs ∧ 23 ∉ rs ∧ 25 ∉ rs ∧ 30 ∉ rs ∧ 33 ∉ rs ∧ 35 ∉ rs ∧ 36 ∉ rs ∧ 37 ∉ rs ∧ 43 ∉ rs) : tabsX S' V a := by
  obtain ⟨g1, g2, g3, g4⟩ := h
  obtain ⟨o1, o2, o3, o4, o5, o6⟩ := h1
  obtain ⟨r1, r2, r3, r4, r5, r6, r7, r8, r9⟩ := h2
  exact ⟨g1.fo (f.1 _ o1) (fun z => z.fo f o5 ⟨r1, r2, r3⟩), g2.fo (f.1 _ o2) (fun z => z.fo f o6 ⟨r4, r5⟩), g3.fo (f.1 _ o3) (fun z => z.fo f o5 ⟨r1, r2, r3⟩ ⟨r6, r7, r8⟩), g4.fo (f.1 _ o4) (fun z => z.fo f r9)⟩
theorem tabsX.new {os rs : List Nat} {S S' : amS} {V V' : Nat} {a b : Ar} (h : tabsX S V a) (f : FO os rs S S') (h1 : 19 ∉ os ∧ 29 ∉ os ∧ 34 ∉ os ∧ 42 ∉ os) (hV : V < V') : tabsX S' V' b := by
  obtain ⟨g1, g2, g3, g4⟩ := h
  obtain ⟨o1, o2, o3, o4⟩ := h1
  exact ⟨g1.new (f.1 _ o1) hV, g2.new (f.1 _ o2) hV, g3.new (f.1 _ o3) hV, g4.new (f.1 _ o4) hV⟩
theorem rgP_lt (nx l k : Nat) : rgP nx l k < 6 := Nat.mod_lt _ (by omega)
theorem histX.fo {os rs : List Nat} {S S' : amS} {hs : List Ar} (h : histX S hs) (f : FO os rs S S') (h1 : 5 ∉ os) (h2 : ∀ q, q < 6 → 7 + 2 * q ∉ os ∧ 8 + 2 * q ∉ rs) : histX S' hs := by
  obtain ⟨nx, g1, g2, g3, g4, g5⟩ := h
  refine ⟨nx, g1, by rw [f.1 5 h1]; exact g2, by rw [f.1 5 h1]; exact g3, g4, fun k b hb => ?_⟩
  obtain ⟨z1, z2⟩ := g5 k b hb
  have := h2 _ (rgP_lt nx hs.length k)
  exact ⟨z1, z2.fo f this.1 this.2⟩
theorem txtX.fo {os rs : List Nat} {S S' : amS} {tx : List Nat} (h : txtX S tx) (f : FO os rs S S') (h1 : 47 ∉ os) (h2 : 48 ∉ rs) : txtX S' tx := by
  unfold txtX at h ⊢
  rw [f.1 47 h1, f.2.1 48 h2]
  exact h
theorem restX.fo {os rs : List Nat} {S S' : amS} {hs : List Ar} {tx : List Nat} {u0 u1 u2 ck co : Int32} (h : restX S hs tx u0 u1 u2 ck co) (f : FO os rs S S') (h1 : 0 ∉ os ∧ 5 ∉ os ∧ 47 ∉ os) (h2 : 48 ∉ rs) (h3 : ∀ q, q < 6 → 7 + 2 * q ∉ os ∧ 8 + 2 * q ∉ rs) : restX S' hs tx u0 u1 u2 ck co := by
  obtain ⟨g1, g2, g3, g4, g5⟩ := h
  refine ⟨g1.fo f h1.2.1 h3, ?_, g3.fo f h1.2.2 h2, ?_, ?_⟩
  · rw [f.1 0 h1.1]; exact g2
  · rw [f.1 0 h1.1]; exact g4
  · rw [f.1 0 h1.1]; exact g5
/-- what the tables' makers may change -/
def tO : List Nat := [19, 20, 24, 26, 29, 32, 34, 38, 39, 42, 45]
def tR : List Nat := [22, 23, 25, 27, 28, 30, 31, 33, 35, 36, 37, 41, 43, 44, 46]
theorem restX.tf {S S' : amS} {hs : List Ar} {tx : List Nat} {u0 u1 u2 ck co : Int32} (h : restX S hs tx u0 u1 u2 ck co) (f : FO tO tR S S') : restX S' hs tx u0 u1 u2 ck co := h.fo f (by decide) (by decide) (by decide)
theorem isA_ring : ∀ q, q < 6 → isA (7 + 2 * q) (8 + 2 * q)
  | 0, _ => ⟨rfl, rfl⟩
  | 1, _ => ⟨rfl, rfl⟩
  | 2, _ => ⟨rfl, rfl⟩
  | 3, _ => ⟨rfl, rfl⟩
  | 4, _ => ⟨rfl, rfl⟩
  | 5, _ => ⟨rfl, rfl⟩
theorem ring_id : ∀ q, q < 6 → ([7, 9, 11, 13, 15, 17] : List Nat)[q]? = some (7 + 2 * q) := by decide
theorem vp_inN {k n : Nat} (h : k < n) (hn : n < 2 ^ 31) : vp_in (nI k) n := by
  unfold vp_in
  rw [nI_clamp (by omega)]
  intro z
  rcases z with z | z
  · exact nI_nn (by omega) z
  · omega
theorem kind_ring : ∀ q, q < 6 → am_kind shX (7 + 2 * q) = some 1
  | 0, _ => rfl
  | 1, _ => rfl
  | 2, _ => rfl
  | 3, _ => rfl
  | 4, _ => rfl
  | 5, _ => rfl
theorem x_aaldN {M : amM} {pc ix n k r : Nat} {loc st : List Value} {S : amS} {Q : Option Value → amS → Prop} {C : String} {ids : List Nat} (hd : decode M.2.1 pc = .ok (.aaload, 1)) (hs : am_shp shX ix = some (.inl (n, .object C, ids))) (hn : n < 2 ^ 31) (hk : k < n) (hi : ids[k]? = some r) (kk : X shX M (pc + 1) loc (.ref r :: st) S Q) : X shX M pc loc (.int (nI k) :: .ref ix :: st) S Q :=
  x_aald hd hs (vp_inN hk hn) (by rw [nI_clamp (by omega)]; exact hi) kk
set_option maxRecDepth 100000 in
set_option maxHeartbeats 4000000 in
theorem kx_keep (S : amS) (hs : List Ar) (hh : histX S hs) (b : Ar) (hA : Arr b.1 b.2.1 b.2.2) (ho : aObj S 3 4 b) : X shX mX3_keep 0 [.ref 5, .ref 3] [] S (fun r S' => r = none ∧ histX S' (pushH hs b) ∧ FO [5, 7, 9, 11, 13, 15, 17] [8, 10, 12, 14, 16, 18] S S') := by
  obtain ⟨nx, h0, h1, h2, h3, h4⟩ := hh
  have hb : b.2.1 ≤ 9 ∧ aObj S 3 4 b := ⟨hA.2.2.1, ho⟩
  refine x_aload_n dX3_keep_0 rfl ?_
  refine x_getR dX3_keep_1 fl_X3_11 rfl ?_
  refine x_aload_n dX3_keep_4 rfl ?_
  refine x_getIV dX3_keep_5 fl_X3_18 rfl (h1) ?_
  refine x_aaldN dX3_keep_8 rfl (by omega) h0 (ring_id nx h0) ?_
  refine x_aload_n dX3_keep_9 rfl ?_
  refine x_v1 (N := mX1_copyFrom) dX3_keep_10 ml_X3_22 nv_X1_copyFrom (kind_ring nx h0) rfl (kx_copy S (7 + 2 * nx) (8 + 2 * nx) 3 4 (isA_ring nx h0) ⟨rfl, rfl⟩ (by omega) (by omega) b hb.1 hb.2) ?_
  rintro _ S' ⟨rfl, f1, f2, f3⟩
  have hm : ∀ i, (∀ q, q < 6 → i ≠ 7 + 2 * q) → S'.1 i = S.1 i := fun i hi => f1.1 i (by simpa using hi nx h0)
  have e1 : S'.1 5 1 = nI nx := by rw [hm 5 (fun q _ => by omega)]; exact h1
  have e2 : S'.1 5 2 = nI hs.length := by rw [hm 5 (fun q _ => by omega)]; exact h2
  refine x_aload_n dX3_keep_13 rfl ?_
  refine x_aload_n dX3_keep_14 rfl ?_
  refine x_getIV dX3_keep_15 fl_X3_18 rfl (e1) ?_
  refine x_ic _ ic_1 dX3_keep_18 ?_
  refine x_iaddN dX3_keep_19 ?_
  refine x_bi _ bi_6 dX3_keep_20 ?_
  refine x_iremN dX3_keep_22 (by omega) (by omega) (by omega) ?_
  refine x_put dX3_keep_23 fp_X3_18 rfl rfl rfl ?_
  refine x_aload_n dX3_keep_26 rfl ?_
  refine x_aload_n dX3_keep_27 rfl ?_
  refine x_getIV dX3_keep_28 fl_X3_26 rfl ((show _ = nI hs.length by simp [sF, sA, va_up, upd]; exact e2)) ?_
  refine x_ic _ ic_1 dX3_keep_31 ?_
  refine x_iaddN dX3_keep_32 ?_
  refine x_bi _ bi_6 dX3_keep_33 ?_
  refine x_mmin dX3_keep_35 ml_X3_29 rfl rfl ?_
  refine x_top (b := nI (pushH hs b).length) ?_ ?_
  · unfold pushH
    by_cases q : hs.length = 6
    · rw [if_pos (by rw [q]; decide), if_pos q, List.length_append, List.length_tail, q]; rfl
    · rw [if_neg (by rw [nI_i32, nI_i32, i32_lt (by omega) (by omega)]; omega), if_neg q, List.length_append]; rfl
  refine x_put dX3_keep_38 fp_X3_26 rfl rfl rfl ?_
  refine x_ret dX3_keep_41 rfl ?_
  refine ⟨rfl, ⟨(nx + 1) % 6, Nat.mod_lt _ (by omega), ?_, ?_, ?_, fun k c hk => ?_⟩, ?_⟩
  · simp [sF, sA, va_up, upd]
  · simp [sF, sA, va_up, upd]
  · unfold pushH
    rw [List.length_append]
    split
    · rw [List.length_tail]; simp; omega
    · simp; omega
  · have key : ∀ q, q < 6 → ∀ c : Ar, aObj S' (7 + 2 * q) (8 + 2 * q) c → aObj (sF (sF S' 5 (upd (S'.1 5) 1 (nI ((nx + 1) % 6)))) 5 (upd ((sF S' 5 (upd (S'.1 5) 1 (nI ((nx + 1) % 6)))).1 5) 2 (nI (pushH hs b).length))) (7 + 2 * q) (8 + 2 * q) c := by
      intro q hq c hc
      exact hc.fo ((((FO.rf [5] [] S').sF _ (by simp)).sF _ (by simp))) (by simp; omega) (by simp)
    have old : ∀ q, q < 6 → q ≠ nx → ∀ c : Ar, aObj S (7 + 2 * q) (8 + 2 * q) c → aObj S' (7 + 2 * q) (8 + 2 * q) c := fun q hq hqn c hc => hc.fo f1 (by simp; omega) (by simp; omega)
    by_cases z : k = (pushH hs b).length - 1
    · have hc : c = b := by
        unfold pushH at hk z
        rw [List.length_append] at z
        simp only [List.length_singleton, Nat.add_sub_cancel] at z
        rw [z, List.getElem?_append_right (Nat.le_refl _)] at hk
        simp at hk
        exact hk.symm
      subst hc
      have e : rgP ((nx + 1) % 6) (pushH hs c).length k = nx := by
        have hl : (pushH hs c).length ≤ 6 ∧ 0 < (pushH hs c).length := by
          unfold pushH
          rw [List.length_append]
          split
          · rw [List.length_tail]; simp; omega
          · simp; omega
        unfold rgP
        omega
      rw [e]
      exact ⟨hA, key nx h0 c f2⟩
    · unfold pushH at hk z ⊢
      by_cases q : hs.length = 6
      · rw [if_pos q] at hk z ⊢
        rw [List.length_append, List.length_tail] at z ⊢
        simp only [List.length_singleton] at z ⊢
        have hk6 : k < hs.tail.length := by
          have := (List.getElem?_eq_some_iff.mp hk).1
          rw [List.length_append, List.length_tail] at this
          rw [List.length_tail]
          simp at this
          omega
        rw [List.getElem?_append_left hk6, List.getElem?_tail] at hk
        obtain ⟨z1, z2⟩ := h4 _ _ hk
        rw [List.length_tail] at hk6
        have e : rgP ((nx + 1) % 6) (hs.length - 1 + 1) k = rgP nx hs.length (k + 1) := by unfold rgP; omega
        rw [e]
        refine ⟨z1, ?_⟩
        have hr := key _ (rgP_lt nx hs.length (k + 1)) c (old _ (rgP_lt _ _ _) (by unfold rgP; omega) c z2)
        unfold pushH at hr
        rw [if_pos q, List.length_append, List.length_tail] at hr
        exact hr
      · rw [if_neg q] at hk z ⊢
        rw [List.length_append] at z ⊢
        simp only [List.length_singleton] at z ⊢
        have hk6 : k < hs.length := by
          have := (List.getElem?_eq_some_iff.mp hk).1
          rw [List.length_append] at this
          simp at this
          omega
        rw [List.getElem?_append_left hk6] at hk
        obtain ⟨z1, z2⟩ := h4 _ _ hk
        have e : rgP ((nx + 1) % 6) (hs.length + 1) k = rgP nx hs.length k := by unfold rgP; omega
        rw [e]
        refine ⟨z1, ?_⟩
        have hr := key _ (rgP_lt nx hs.length k) c (old _ (rgP_lt _ _ _) (by unfold rgP; omega) c z2)
        unfold pushH at hr
        rw [if_neg q, List.length_append] at hr
        exact hr
  · refine ((f1.mono (fun o ho => ?_) (fun o ho => ?_)).sF _ (by simp)).sF _ (by simp)
    · simp at ho
      simp
      omega
    · simp at ho
      simp
      omega
set_option maxRecDepth 100000 in
set_option maxHeartbeats 4000000 in
theorem kx_restore_no (S : amS) (hh : histX S []) : X shX mX3_restore 0 [.ref 5, .ref 1] [] S (fun r S' => r = some (.int (nI 0)) ∧ S' = S) := by
  refine x_aload_n dX3_restore_0 rfl ?_
  refine x_getIV dX3_restore_1 fl_X3_26 rfl ((show _ = nI 0 from hh.choose_spec.2.2.1)) ?_
  refine x_if_neN 9 dX3_restore_4 rfl (by omega) (fun c4 => ?_) (fun c4 => ?_)
  · exact absurd rfl c4
  · refine x_ic _ ic_0 dX3_restore_7 ?_
    refine x_zret0 dX3_restore_8 rfl ?_
    exact ⟨rfl, rfl⟩
set_option maxRecDepth 100000 in
set_option maxHeartbeats 4000000 in
theorem kx_restore (S : amS) (hs : List Ar) (b : Ar) (hh : histX S (hs ++ [b])) : X shX mX3_restore 0 [.ref 5, .ref 1] [] S (fun r S' => r = some (.int (nI 1)) ∧ histX S' hs ∧ Arr b.1 b.2.1 b.2.2 ∧ aObj S' 1 2 b ∧ S'.1 1 3 = S.1 1 3 + nI 1 ∧ FO [1, 5] [2] S S') := by
  obtain ⟨nx, h0, h1, h2, h3, h4⟩ := hh
  have hl : (hs ++ [b]).length = hs.length + 1 := by rw [List.length_append]; rfl
  rw [hl] at h2 h3 h4
  obtain ⟨z1, z2⟩ := h4 hs.length b (by rw [List.getElem?_append_right (Nat.le_refl _)]; simp)
  have en : (nx + 6 - 1) % 6 = rgP nx (hs.length + 1) hs.length := by unfold rgP; omega
  refine x_aload_n dX3_restore_0 rfl ?_
  refine x_getIV dX3_restore_1 fl_X3_26 rfl (h2) ?_
  refine x_if_neN 9 dX3_restore_4 rfl (by omega) (fun c4 => ?_) (fun c4 => ?_)
  · refine x_aload_n dX3_restore_9 rfl ?_
    refine x_dup dX3_restore_10 rfl ?_
    refine x_getIV dX3_restore_11 fl_X3_26 rfl (h2) ?_
    refine x_ic _ ic_1 dX3_restore_14 ?_
    refine x_isubN dX3_restore_15 (by omega) ?_
    refine x_put dX3_restore_16 fp_X3_26 rfl rfl rfl ?_
    refine x_aload_n dX3_restore_19 rfl ?_
    refine x_aload_n dX3_restore_20 rfl ?_
    refine x_getIV dX3_restore_21 fl_X3_18 rfl ((show _ = nI nx by simp [sF, sA, va_up, upd]; exact h1)) ?_
    refine x_bi _ bi_6 dX3_restore_24 ?_
    refine x_iaddN dX3_restore_26 ?_
    refine x_ic _ ic_1 dX3_restore_27 ?_
    refine x_isubN dX3_restore_28 (by omega) ?_
    refine x_bi _ bi_6 dX3_restore_29 ?_
    refine x_iremN dX3_restore_31 (by omega) (by omega) (by omega) ?_
    refine x_put dX3_restore_32 fp_X3_18 rfl rfl rfl ?_
    refine x_aload_n dX3_restore_35 rfl ?_
    refine x_aload_n dX3_restore_36 rfl ?_
    refine x_getR dX3_restore_37 fl_X3_11 rfl ?_
    refine x_aload_n dX3_restore_40 rfl ?_
    refine x_getIV dX3_restore_41 fl_X3_18 rfl ((show _ = nI (rgP nx (hs.length + 1) hs.length) by simp [sF, sA, va_up, upd]; exact congrArg nI en)) ?_
    refine x_aaldN dX3_restore_44 rfl (by omega) (rgP_lt _ _ _) (ring_id _ (rgP_lt _ _ _)) ?_
    have fb := ((FO.rf [5] [] S).sF (upd (S.1 5) 2 (nI (hs.length + 1 - 1))) (o := 5) (by simp)).sF (upd ((sF S 5 (upd (S.1 5) 2 (nI (hs.length + 1 - 1)))).1 5) 1 (nI ((nx + 6 - 1) % 6))) (o := 5) (by simp)
    have z3 := z2.fo fb (by simp; omega) (by simp)
    refine x_v1 (N := mX1_copyFrom) dX3_restore_45 ml_X3_22 nv_X1_copyFrom rfl rfl (kx_copy _ 1 2 (7 + 2 * rgP nx (hs.length + 1) hs.length) (8 + 2 * rgP nx (hs.length + 1) hs.length) ⟨rfl, rfl⟩ (isA_ring _ (rgP_lt _ _ _)) (by omega) (by omega) b z1.2.2.1 z3) ?_
    rintro _ S' ⟨rfl, f1, f2, f3⟩
    refine x_ic _ ic_1 dX3_restore_48 ?_
    refine x_zret1 dX3_restore_49 rfl ?_
    refine ⟨rfl, ⟨rgP nx (hs.length + 1) hs.length, rgP_lt _ _ _, ?_, ?_, by omega, fun k c hk => ?_⟩, z1, f2, ?_, ?_⟩
    · rw [f1.1 5 (by simp)]
      simp [sF, sA, va_up, upd]
      exact congrArg nI en
    · rw [f1.1 5 (by simp)]
      simp [sF, sA, va_up, upd]
    · have hkl : k < hs.length := (List.getElem?_eq_some_iff.mp hk).1
      obtain ⟨y1, y2⟩ := h4 k c (by rw [List.getElem?_append_left hkl]; exact hk)
      have e : rgP (rgP nx (hs.length + 1) hs.length) hs.length k = rgP nx (hs.length + 1) k := by unfold rgP; omega
      rw [e]
      exact ⟨y1, (y2.fo fb (by simp; omega) (by simp)).fo f1 (by simp; omega) (by simp; omega)⟩
    · rw [f3]
      rfl
    · exact (fb.mono (os' := [1, 5]) (rs' := [2]) (by simp) (by simp)).tr (f1.mono (by simp) (by simp))
  · exact absurd c4 (by omega)
