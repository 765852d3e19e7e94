/-! THE REFERENCE: doOrder, reads -/
set_option maxRecDepth 100000 in
set_option maxHeartbeats 4000000 in
theorem k_dO_d_ok (S : amS) (a : Ar) (hA : Arr a.1 a.2.1 a.2.2) (hm : nRow (S.2.1 1) a) (k : Nat) (hk : k < 50) (o : Od) (ho : OdOK o) (hO : OdAt S k o) (Q : Option Value → amS → Prop) (hok : ∀ n b S', exO a o = .inr b → n < 1000 → On S S' → nRow (S'.2.1 1) b → Arr b.1 b.2.1 b.2.2 → Q (some (.int (nI n))) S') (hbad : ∀ e S', exO a o = .inl e → 2 ≤ e ∧ e ≤ 4 → On S S' → nRow (S'.2.1 1) a → Q (some (.int (i32 (-(e : Int))))) S') (hL : o.1 = 100) : X shM mX11_doOrder 0 [.ref 0, .int (nI k), .null, .null] [] S Q := by
  obtain ⟨a1, a2, a3, a4, a5, a6, a7⟩ := id hA
  have hz : ∀ t, i32 (o.2 t) = nI (o.2 t).toNat := fun t => by rw [nI_i32, Int.toNat_of_nonneg (ho.2.2.1 (by omega) t)]
  have h9 : ∀ t, (o.2 t).toNat ≤ 9 := fun t => by have := ho.2.1 t; omega
  refine x_aload_n dX11_doOrder_0 rfl ?_
  refine x_getR dX11_doOrder_1 fl_X11_79 rfl ?_
  refine x_ic _ ic_4 dX11_doOrder_4 ?_
  refine x_iload_n dX11_doOrder_5 rfl ?_
  refine x_imulN dX11_doOrder_6 ?_
  refine x_ialdN dX11_doOrder_7 rfl rfl (by omega) ((hO.2 0 (by omega)).trans (hz 0)) ?_
  refine x_istore_n dX11_doOrder_8 rfl ?_
  refine x_aload_n dX11_doOrder_9 rfl ?_
  refine x_getR dX11_doOrder_10 fl_X11_79 rfl ?_
  refine x_ic _ ic_4 dX11_doOrder_13 ?_
  refine x_iload_n dX11_doOrder_14 rfl ?_
  refine x_imulN dX11_doOrder_15 ?_
  refine x_ic _ ic_1 dX11_doOrder_16 ?_
  refine x_iaddN dX11_doOrder_17 ?_
  refine x_ialdN dX11_doOrder_18 rfl rfl (by omega) ((hO.2 1 (by omega)).trans (hz 1)) ?_
  refine x_istore_n dX11_doOrder_19 rfl ?_
  refine x_aload_n dX11_doOrder_20 rfl ?_
  refine x_getR dX11_doOrder_21 fl_X11_76 rfl ?_
  refine x_iload_n dX11_doOrder_24 rfl ?_
  refine x_ialdN dX11_doOrder_25 rfl rfl (by omega) (hO.1.trans (by rw [hL] : nI o.1 = nI 100)) ?_
  refine x_lookup 76 dX11_doOrder_26 (by decide) (by decide : Op.lookupswitch.offset _ _ _ = 50) rfl ?_
  refine x_aload_n dX11_doOrder_76 rfl ?_
  refine x_iload_n dX11_doOrder_77 rfl ?_
  refine x_v1 (N := mX11_doSpace) dX11_doOrder_78 ml_X11_164 nv_X11_doSpace rfl rfl (k_doSpace_ok S a hA hm (o.2 0).toNat (by have := ho.2.2.2 hL; omega) (by have := ho.2.2.2 hL; omega)) ?_
  rintro _ S' ⟨rfl, ho', hr⟩
  refine x_iretI dX11_doOrder_81 rfl ?_
  exact hok _ _ S' (by unfold exO; rw [if_pos hL]) (by have := h9 0; omega) ho' hr (arr_space (n := (o.2 0).toNat) (by have := ho.2.2.2 hL; omega) (by have := ho.2.2.2 hL; omega))
set_option maxRecDepth 100000 in
set_option maxHeartbeats 4000000 in
theorem k_dO_t_ok (S : amS) (a : Ar) (hA : Arr a.1 a.2.1 a.2.2) (hm : nRow (S.2.1 1) a) (k : Nat) (hk : k < 50) (o : Od) (ho : OdOK o) (hO : OdAt S k o) (Q : Option Value → amS → Prop) (hok : ∀ n b S', exO a o = .inr b → n < 1000 → On S S' → nRow (S'.2.1 1) b → Arr b.1 b.2.1 b.2.2 → Q (some (.int (nI n))) S') (hbad : ∀ e S', exO a o = .inl e → 2 ≤ e ∧ e ≤ 4 → On S S' → nRow (S'.2.1 1) a → Q (some (.int (i32 (-(e : Int))))) S') (hL : o.1 = 116) (hb : (o.2 0).toNat < a.2.1) : X shM mX11_doOrder 0 [.ref 0, .int (nI k), .null, .null] [] S Q := by
  obtain ⟨a1, a2, a3, a4, a5, a6, a7⟩ := id hA
  have hz : ∀ t, i32 (o.2 t) = nI (o.2 t).toNat := fun t => by rw [nI_i32, Int.toNat_of_nonneg (ho.2.2.1 (by omega) t)]
  have h9 : ∀ t, (o.2 t).toNat ≤ 9 := fun t => by have := ho.2.1 t; omega
  refine x_aload_n dX11_doOrder_0 rfl ?_
  refine x_getR dX11_doOrder_1 fl_X11_79 rfl ?_
  refine x_ic _ ic_4 dX11_doOrder_4 ?_
  refine x_iload_n dX11_doOrder_5 rfl ?_
  refine x_imulN dX11_doOrder_6 ?_
  refine x_ialdN dX11_doOrder_7 rfl rfl (by omega) ((hO.2 0 (by omega)).trans (hz 0)) ?_
  refine x_istore_n dX11_doOrder_8 rfl ?_
  refine x_aload_n dX11_doOrder_9 rfl ?_
  refine x_getR dX11_doOrder_10 fl_X11_79 rfl ?_
  refine x_ic _ ic_4 dX11_doOrder_13 ?_
  refine x_iload_n dX11_doOrder_14 rfl ?_
  refine x_imulN dX11_doOrder_15 ?_
  refine x_ic _ ic_1 dX11_doOrder_16 ?_
  refine x_iaddN dX11_doOrder_17 ?_
  refine x_ialdN dX11_doOrder_18 rfl rfl (by omega) ((hO.2 1 (by omega)).trans (hz 1)) ?_
  refine x_istore_n dX11_doOrder_19 rfl ?_
  refine x_aload_n dX11_doOrder_20 rfl ?_
  refine x_getR dX11_doOrder_21 fl_X11_76 rfl ?_
  refine x_iload_n dX11_doOrder_24 rfl ?_
  refine x_ialdN dX11_doOrder_25 rfl rfl (by omega) (hO.1.trans (by rw [hL] : nI o.1 = nI 116)) ?_
  refine x_lookup 109 dX11_doOrder_26 (by decide) (by decide : Op.lookupswitch.offset _ _ _ = 83) rfl ?_
  refine x_aload_n dX11_doOrder_109 rfl ?_
  refine x_iload_n dX11_doOrder_110 rfl ?_
  refine x_v1 (N := mX11_doTurns) dX11_doOrder_111 ml_X11_174 nv_X11_doTurns rfl rfl (k_doTurns_ok S a hA hm (o.2 0).toNat hb) ?_
  rintro _ S' ⟨rfl, ho', hr⟩
  refine x_iretI dX11_doOrder_114 rfl ?_
  exact hok _ _ S' (by unfold exO; rw [if_neg (by omega), if_neg (by omega), if_pos hL, if_pos hb]) (by have := h9 0; omega) ho' hr (arr_turn hA _)
set_option maxRecDepth 100000 in
set_option maxHeartbeats 4000000 in
theorem k_dO_t_bad (S : amS) (a : Ar) (hA : Arr a.1 a.2.1 a.2.2) (hm : nRow (S.2.1 1) a) (k : Nat) (hk : k < 50) (o : Od) (ho : OdOK o) (hO : OdAt S k o) (Q : Option Value → amS → Prop) (hok : ∀ n b S', exO a o = .inr b → n < 1000 → On S S' → nRow (S'.2.1 1) b → Arr b.1 b.2.1 b.2.2 → Q (some (.int (nI n))) S') (hbad : ∀ e S', exO a o = .inl e → 2 ≤ e ∧ e ≤ 4 → On S S' → nRow (S'.2.1 1) a → Q (some (.int (i32 (-(e : Int))))) S') (hL : o.1 = 116) (hb : ¬ ((o.2 0).toNat < a.2.1)) : X shM mX11_doOrder 0 [.ref 0, .int (nI k), .null, .null] [] S Q := by
  obtain ⟨a1, a2, a3, a4, a5, a6, a7⟩ := id hA
  have hz : ∀ t, i32 (o.2 t) = nI (o.2 t).toNat := fun t => by rw [nI_i32, Int.toNat_of_nonneg (ho.2.2.1 (by omega) t)]
  have h9 : ∀ t, (o.2 t).toNat ≤ 9 := fun t => by have := ho.2.1 t; omega
  refine x_aload_n dX11_doOrder_0 rfl ?_
  refine x_getR dX11_doOrder_1 fl_X11_79 rfl ?_
  refine x_ic _ ic_4 dX11_doOrder_4 ?_
  refine x_iload_n dX11_doOrder_5 rfl ?_
  refine x_imulN dX11_doOrder_6 ?_
  refine x_ialdN dX11_doOrder_7 rfl rfl (by omega) ((hO.2 0 (by omega)).trans (hz 0)) ?_
  refine x_istore_n dX11_doOrder_8 rfl ?_
  refine x_aload_n dX11_doOrder_9 rfl ?_
  refine x_getR dX11_doOrder_10 fl_X11_79 rfl ?_
  refine x_ic _ ic_4 dX11_doOrder_13 ?_
  refine x_iload_n dX11_doOrder_14 rfl ?_
  refine x_imulN dX11_doOrder_15 ?_
  refine x_ic _ ic_1 dX11_doOrder_16 ?_
  refine x_iaddN dX11_doOrder_17 ?_
  refine x_ialdN dX11_doOrder_18 rfl rfl (by omega) ((hO.2 1 (by omega)).trans (hz 1)) ?_
  refine x_istore_n dX11_doOrder_19 rfl ?_
  refine x_aload_n dX11_doOrder_20 rfl ?_
  refine x_getR dX11_doOrder_21 fl_X11_76 rfl ?_
  refine x_iload_n dX11_doOrder_24 rfl ?_
  refine x_ialdN dX11_doOrder_25 rfl rfl (by omega) (hO.1.trans (by rw [hL] : nI o.1 = nI 116)) ?_
  refine x_lookup 109 dX11_doOrder_26 (by decide) (by decide : Op.lookupswitch.offset _ _ _ = 83) rfl ?_
  refine x_aload_n dX11_doOrder_109 rfl ?_
  refine x_iload_n dX11_doOrder_110 rfl ?_
  refine x_v1 (N := mX11_doTurns) dX11_doOrder_111 ml_X11_174 nv_X11_doTurns rfl rfl (k_doTurns_bad S a hA hm _ (fun z => hb (InR_nI (by have := h9 0; omega) (by omega) z))) ?_
  rintro _ S' ⟨rfl, ho', hr⟩
  refine x_iretI dX11_doOrder_114 rfl ?_
  exact hbad 2 S' (by unfold exO; rw [if_neg (by omega), if_neg (by omega), if_pos hL, if_neg hb]) (by omega) ho' hr
set_option maxRecDepth 100000 in
set_option maxHeartbeats 4000000 in
theorem k_dO_x_ok (S : amS) (a : Ar) (hA : Arr a.1 a.2.1 a.2.2) (hm : nRow (S.2.1 1) a) (k : Nat) (hk : k < 50) (o : Od) (ho : OdOK o) (hO : OdAt S k o) (Q : Option Value → amS → Prop) (hok : ∀ n b S', exO a o = .inr b → n < 1000 → On S S' → nRow (S'.2.1 1) b → Arr b.1 b.2.1 b.2.2 → Q (some (.int (nI n))) S') (hbad : ∀ e S', exO a o = .inl e → 2 ≤ e ∧ e ≤ 4 → On S S' → nRow (S'.2.1 1) a → Q (some (.int (i32 (-(e : Int))))) S') (hL : o.1 = 120) (hb : (o.2 0).toNat < a.2.1) : X shM mX11_doOrder 0 [.ref 0, .int (nI k), .null, .null] [] S Q := by
  obtain ⟨a1, a2, a3, a4, a5, a6, a7⟩ := id hA
  have hz : ∀ t, i32 (o.2 t) = nI (o.2 t).toNat := fun t => by rw [nI_i32, Int.toNat_of_nonneg (ho.2.2.1 (by omega) t)]
  have h9 : ∀ t, (o.2 t).toNat ≤ 9 := fun t => by have := ho.2.1 t; omega
  refine x_aload_n dX11_doOrder_0 rfl ?_
  refine x_getR dX11_doOrder_1 fl_X11_79 rfl ?_
  refine x_ic _ ic_4 dX11_doOrder_4 ?_
  refine x_iload_n dX11_doOrder_5 rfl ?_
  refine x_imulN dX11_doOrder_6 ?_
  refine x_ialdN dX11_doOrder_7 rfl rfl (by omega) ((hO.2 0 (by omega)).trans (hz 0)) ?_
  refine x_istore_n dX11_doOrder_8 rfl ?_
  refine x_aload_n dX11_doOrder_9 rfl ?_
  refine x_getR dX11_doOrder_10 fl_X11_79 rfl ?_
  refine x_ic _ ic_4 dX11_doOrder_13 ?_
  refine x_iload_n dX11_doOrder_14 rfl ?_
  refine x_imulN dX11_doOrder_15 ?_
  refine x_ic _ ic_1 dX11_doOrder_16 ?_
  refine x_iaddN dX11_doOrder_17 ?_
  refine x_ialdN dX11_doOrder_18 rfl rfl (by omega) ((hO.2 1 (by omega)).trans (hz 1)) ?_
  refine x_istore_n dX11_doOrder_19 rfl ?_
  refine x_aload_n dX11_doOrder_20 rfl ?_
  refine x_getR dX11_doOrder_21 fl_X11_76 rfl ?_
  refine x_iload_n dX11_doOrder_24 rfl ?_
  refine x_ialdN dX11_doOrder_25 rfl rfl (by omega) (hO.1.trans (by rw [hL] : nI o.1 = nI 120)) ?_
  refine x_lookup 115 dX11_doOrder_26 (by decide) (by decide : Op.lookupswitch.offset _ _ _ = 89) rfl ?_
  refine x_aload_n dX11_doOrder_115 rfl ?_
  refine x_iload_n dX11_doOrder_116 rfl ?_
  refine x_v1 (N := mX11_doDrops) dX11_doOrder_117 ml_X11_180 nv_X11_doDrops rfl rfl (k_doDrops_ok S a hA hm (o.2 0).toNat hb) ?_
  rintro _ S' ⟨rfl, ho', hr⟩
  refine x_iretI dX11_doOrder_120 rfl ?_
  exact hok _ _ S' (by unfold exO; rw [if_neg (by omega), if_neg (by omega), if_neg (by omega), if_pos hL, if_pos hb]) (by omega) ho' hr (arr_drop hA hb)
set_option maxRecDepth 100000 in
set_option maxHeartbeats 4000000 in
theorem k_dO_x_bad (S : amS) (a : Ar) (hA : Arr a.1 a.2.1 a.2.2) (hm : nRow (S.2.1 1) a) (k : Nat) (hk : k < 50) (o : Od) (ho : OdOK o) (hO : OdAt S k o) (Q : Option Value → amS → Prop) (hok : ∀ n b S', exO a o = .inr b → n < 1000 → On S S' → nRow (S'.2.1 1) b → Arr b.1 b.2.1 b.2.2 → Q (some (.int (nI n))) S') (hbad : ∀ e S', exO a o = .inl e → 2 ≤ e ∧ e ≤ 4 → On S S' → nRow (S'.2.1 1) a → Q (some (.int (i32 (-(e : Int))))) S') (hL : o.1 = 120) (hb : ¬ ((o.2 0).toNat < a.2.1)) : X shM mX11_doOrder 0 [.ref 0, .int (nI k), .null, .null] [] S Q := by
  obtain ⟨a1, a2, a3, a4, a5, a6, a7⟩ := id hA
  have hz : ∀ t, i32 (o.2 t) = nI (o.2 t).toNat := fun t => by rw [nI_i32, Int.toNat_of_nonneg (ho.2.2.1 (by omega) t)]
  have h9 : ∀ t, (o.2 t).toNat ≤ 9 := fun t => by have := ho.2.1 t; omega
  refine x_aload_n dX11_doOrder_0 rfl ?_
  refine x_getR dX11_doOrder_1 fl_X11_79 rfl ?_
  refine x_ic _ ic_4 dX11_doOrder_4 ?_
  refine x_iload_n dX11_doOrder_5 rfl ?_
  refine x_imulN dX11_doOrder_6 ?_
  refine x_ialdN dX11_doOrder_7 rfl rfl (by omega) ((hO.2 0 (by omega)).trans (hz 0)) ?_
  refine x_istore_n dX11_doOrder_8 rfl ?_
  refine x_aload_n dX11_doOrder_9 rfl ?_
  refine x_getR dX11_doOrder_10 fl_X11_79 rfl ?_
  refine x_ic _ ic_4 dX11_doOrder_13 ?_
  refine x_iload_n dX11_doOrder_14 rfl ?_
  refine x_imulN dX11_doOrder_15 ?_
  refine x_ic _ ic_1 dX11_doOrder_16 ?_
  refine x_iaddN dX11_doOrder_17 ?_
  refine x_ialdN dX11_doOrder_18 rfl rfl (by omega) ((hO.2 1 (by omega)).trans (hz 1)) ?_
  refine x_istore_n dX11_doOrder_19 rfl ?_
  refine x_aload_n dX11_doOrder_20 rfl ?_
  refine x_getR dX11_doOrder_21 fl_X11_76 rfl ?_
  refine x_iload_n dX11_doOrder_24 rfl ?_
  refine x_ialdN dX11_doOrder_25 rfl rfl (by omega) (hO.1.trans (by rw [hL] : nI o.1 = nI 120)) ?_
  refine x_lookup 115 dX11_doOrder_26 (by decide) (by decide : Op.lookupswitch.offset _ _ _ = 89) rfl ?_
  refine x_aload_n dX11_doOrder_115 rfl ?_
  refine x_iload_n dX11_doOrder_116 rfl ?_
  refine x_v1 (N := mX11_doDrops) dX11_doOrder_117 ml_X11_180 nv_X11_doDrops rfl rfl (k_doDrops_bad S a hA hm _ (fun z => hb (InR_nI (by have := h9 0; omega) (by omega) z))) ?_
  rintro _ S' ⟨rfl, ho', hr⟩
  refine x_iretI dX11_doOrder_120 rfl ?_
  exact hbad 2 S' (by unfold exO; rw [if_neg (by omega), if_neg (by omega), if_neg (by omega), if_pos hL, if_neg hb]) (by omega) ho' hr
set_option maxRecDepth 100000 in
set_option maxHeartbeats 4000000 in
theorem k_dO_s_ok (S : amS) (a : Ar) (hA : Arr a.1 a.2.1 a.2.2) (hm : nRow (S.2.1 1) a) (k : Nat) (hk : k < 50) (o : Od) (ho : OdOK o) (hO : OdAt S k o) (Q : Option Value → amS → Prop) (hok : ∀ n b S', exO a o = .inr b → n < 1000 → On S S' → nRow (S'.2.1 1) b → Arr b.1 b.2.1 b.2.2 → Q (some (.int (nI n))) S') (hbad : ∀ e S', exO a o = .inl e → 2 ≤ e ∧ e ≤ 4 → On S S' → nRow (S'.2.1 1) a → Q (some (.int (i32 (-(e : Int))))) S') (hL : o.1 = 115) (hb : (o.2 0).toNat < a.2.1 ∧ (o.2 1).toNat < a.2.1 ∧ (o.2 0).toNat ≠ (o.2 1).toNat) : X shM mX11_doOrder 0 [.ref 0, .int (nI k), .null, .null] [] S Q := by
  obtain ⟨a1, a2, a3, a4, a5, a6, a7⟩ := id hA
  have hz : ∀ t, i32 (o.2 t) = nI (o.2 t).toNat := fun t => by rw [nI_i32, Int.toNat_of_nonneg (ho.2.2.1 (by omega) t)]
  have h9 : ∀ t, (o.2 t).toNat ≤ 9 := fun t => by have := ho.2.1 t; omega
  refine x_aload_n dX11_doOrder_0 rfl ?_
  refine x_getR dX11_doOrder_1 fl_X11_79 rfl ?_
  refine x_ic _ ic_4 dX11_doOrder_4 ?_
  refine x_iload_n dX11_doOrder_5 rfl ?_
  refine x_imulN dX11_doOrder_6 ?_
  refine x_ialdN dX11_doOrder_7 rfl rfl (by omega) ((hO.2 0 (by omega)).trans (hz 0)) ?_
  refine x_istore_n dX11_doOrder_8 rfl ?_
  refine x_aload_n dX11_doOrder_9 rfl ?_
  refine x_getR dX11_doOrder_10 fl_X11_79 rfl ?_
  refine x_ic _ ic_4 dX11_doOrder_13 ?_
  refine x_iload_n dX11_doOrder_14 rfl ?_
  refine x_imulN dX11_doOrder_15 ?_
  refine x_ic _ ic_1 dX11_doOrder_16 ?_
  refine x_iaddN dX11_doOrder_17 ?_
  refine x_ialdN dX11_doOrder_18 rfl rfl (by omega) ((hO.2 1 (by omega)).trans (hz 1)) ?_
  refine x_istore_n dX11_doOrder_19 rfl ?_
  refine x_aload_n dX11_doOrder_20 rfl ?_
  refine x_getR dX11_doOrder_21 fl_X11_76 rfl ?_
  refine x_iload_n dX11_doOrder_24 rfl ?_
  refine x_ialdN dX11_doOrder_25 rfl rfl (by omega) (hO.1.trans (by rw [hL] : nI o.1 = nI 115)) ?_
  refine x_lookup 121 dX11_doOrder_26 (by decide) (by decide : Op.lookupswitch.offset _ _ _ = 95) rfl ?_
  refine x_aload_n dX11_doOrder_121 rfl ?_
  refine x_iload_n dX11_doOrder_122 rfl ?_
  refine x_iload_n dX11_doOrder_123 rfl ?_
  refine x_v2 (N := mX11_doSwaps) dX11_doOrder_124 ml_X11_183 nv_X11_doSwaps rfl rfl (k_doSwaps_ok S a hA hm (o.2 0).toNat (o.2 1).toNat hb.1 hb.2.1 hb.2.2) ?_
  rintro _ S' ⟨rfl, ho', hr⟩
  refine x_iretI dX11_doOrder_127 rfl ?_
  exact hok _ _ S' (by unfold exO; rw [if_neg (by omega), if_neg (by omega), if_neg (by omega), if_neg (by omega), if_pos hL, if_pos hb]) (by have := h9 0; omega) ho' hr (arr_swap hA hb.1 hb.2.1)
set_option maxRecDepth 100000 in
set_option maxHeartbeats 4000000 in
theorem k_dO_s_bad (S : amS) (a : Ar) (hA : Arr a.1 a.2.1 a.2.2) (hm : nRow (S.2.1 1) a) (k : Nat) (hk : k < 50) (o : Od) (ho : OdOK o) (hO : OdAt S k o) (Q : Option Value → amS → Prop) (hok : ∀ n b S', exO a o = .inr b → n < 1000 → On S S' → nRow (S'.2.1 1) b → Arr b.1 b.2.1 b.2.2 → Q (some (.int (nI n))) S') (hbad : ∀ e S', exO a o = .inl e → 2 ≤ e ∧ e ≤ 4 → On S S' → nRow (S'.2.1 1) a → Q (some (.int (i32 (-(e : Int))))) S') (hL : o.1 = 115) (hb : ¬ ((o.2 0).toNat < a.2.1 ∧ (o.2 1).toNat < a.2.1 ∧ (o.2 0).toNat ≠ (o.2 1).toNat)) : X shM mX11_doOrder 0 [.ref 0, .int (nI k), .null, .null] [] S Q := by
  obtain ⟨a1, a2, a3, a4, a5, a6, a7⟩ := id hA
  have hz : ∀ t, i32 (o.2 t) = nI (o.2 t).toNat := fun t => by rw [nI_i32, Int.toNat_of_nonneg (ho.2.2.1 (by omega) t)]
  have h9 : ∀ t, (o.2 t).toNat ≤ 9 := fun t => by have := ho.2.1 t; omega
  refine x_aload_n dX11_doOrder_0 rfl ?_
  refine x_getR dX11_doOrder_1 fl_X11_79 rfl ?_
  refine x_ic _ ic_4 dX11_doOrder_4 ?_
  refine x_iload_n dX11_doOrder_5 rfl ?_
  refine x_imulN dX11_doOrder_6 ?_
  refine x_ialdN dX11_doOrder_7 rfl rfl (by omega) ((hO.2 0 (by omega)).trans (hz 0)) ?_
  refine x_istore_n dX11_doOrder_8 rfl ?_
  refine x_aload_n dX11_doOrder_9 rfl ?_
  refine x_getR dX11_doOrder_10 fl_X11_79 rfl ?_
  refine x_ic _ ic_4 dX11_doOrder_13 ?_
  refine x_iload_n dX11_doOrder_14 rfl ?_
  refine x_imulN dX11_doOrder_15 ?_
  refine x_ic _ ic_1 dX11_doOrder_16 ?_
  refine x_iaddN dX11_doOrder_17 ?_
  refine x_ialdN dX11_doOrder_18 rfl rfl (by omega) ((hO.2 1 (by omega)).trans (hz 1)) ?_
  refine x_istore_n dX11_doOrder_19 rfl ?_
  refine x_aload_n dX11_doOrder_20 rfl ?_
  refine x_getR dX11_doOrder_21 fl_X11_76 rfl ?_
  refine x_iload_n dX11_doOrder_24 rfl ?_
  refine x_ialdN dX11_doOrder_25 rfl rfl (by omega) (hO.1.trans (by rw [hL] : nI o.1 = nI 115)) ?_
  refine x_lookup 121 dX11_doOrder_26 (by decide) (by decide : Op.lookupswitch.offset _ _ _ = 95) rfl ?_
  refine x_aload_n dX11_doOrder_121 rfl ?_
  refine x_iload_n dX11_doOrder_122 rfl ?_
  refine x_iload_n dX11_doOrder_123 rfl ?_
  refine x_v2 (N := mX11_doSwaps) dX11_doOrder_124 ml_X11_183 nv_X11_doSwaps rfl rfl (k_doSwaps_bad S a hA hm _ _ (fun z => hb ⟨InR_nI (by have := h9 0; omega) (by omega) z.1, InR_nI (by have := h9 1; omega) (by omega) z.2.1, fun e => z.2.2 (by rw [e])⟩)) ?_
  rintro _ S' ⟨rfl, ho', hr⟩
  refine x_iretI dX11_doOrder_127 rfl ?_
  exact hbad 2 S' (by unfold exO; rw [if_neg (by omega), if_neg (by omega), if_neg (by omega), if_neg (by omega), if_pos hL, if_neg hb]) (by omega) ho' hr
set_option maxRecDepth 100000 in
set_option maxHeartbeats 4000000 in
theorem k_dO_m_ok (S : amS) (a : Ar) (hA : Arr a.1 a.2.1 a.2.2) (hm : nRow (S.2.1 1) a) (k : Nat) (hk : k < 50) (o : Od) (ho : OdOK o) (hO : OdAt S k o) (Q : Option Value → amS → Prop) (hok : ∀ n b S', exO a o = .inr b → n < 1000 → On S S' → nRow (S'.2.1 1) b → Arr b.1 b.2.1 b.2.2 → Q (some (.int (nI n))) S') (hbad : ∀ e S', exO a o = .inl e → 2 ≤ e ∧ e ≤ 4 → On S S' → nRow (S'.2.1 1) a → Q (some (.int (i32 (-(e : Int))))) S') (hL : o.1 = 109) (hb : (o.2 0).toNat < 4) : X shM mX11_doOrder 0 [.ref 0, .int (nI k), .null, .null] [] S Q := by
  obtain ⟨a1, a2, a3, a4, a5, a6, a7⟩ := id hA
  have hz : ∀ t, i32 (o.2 t) = nI (o.2 t).toNat := fun t => by rw [nI_i32, Int.toNat_of_nonneg (ho.2.2.1 (by omega) t)]
  have h9 : ∀ t, (o.2 t).toNat ≤ 9 := fun t => by have := ho.2.1 t; omega
  refine x_aload_n dX11_doOrder_0 rfl ?_
  refine x_getR dX11_doOrder_1 fl_X11_79 rfl ?_
  refine x_ic _ ic_4 dX11_doOrder_4 ?_
  refine x_iload_n dX11_doOrder_5 rfl ?_
  refine x_imulN dX11_doOrder_6 ?_
  refine x_ialdN dX11_doOrder_7 rfl rfl (by omega) ((hO.2 0 (by omega)).trans (hz 0)) ?_
  refine x_istore_n dX11_doOrder_8 rfl ?_
  refine x_aload_n dX11_doOrder_9 rfl ?_
  refine x_getR dX11_doOrder_10 fl_X11_79 rfl ?_
  refine x_ic _ ic_4 dX11_doOrder_13 ?_
  refine x_iload_n dX11_doOrder_14 rfl ?_
  refine x_imulN dX11_doOrder_15 ?_
  refine x_ic _ ic_1 dX11_doOrder_16 ?_
  refine x_iaddN dX11_doOrder_17 ?_
  refine x_ialdN dX11_doOrder_18 rfl rfl (by omega) ((hO.2 1 (by omega)).trans (hz 1)) ?_
  refine x_istore_n dX11_doOrder_19 rfl ?_
  refine x_aload_n dX11_doOrder_20 rfl ?_
  refine x_getR dX11_doOrder_21 fl_X11_76 rfl ?_
  refine x_iload_n dX11_doOrder_24 rfl ?_
  refine x_ialdN dX11_doOrder_25 rfl rfl (by omega) (hO.1.trans (by rw [hL] : nI o.1 = nI 109)) ?_
  refine x_lookup 128 dX11_doOrder_26 (by decide) (by decide : Op.lookupswitch.offset _ _ _ = 102) rfl ?_
  refine x_aload_n dX11_doOrder_128 rfl ?_
  refine x_iload_n dX11_doOrder_129 rfl ?_
  refine x_v1 (N := mX11_doMakes) dX11_doOrder_130 ml_X11_190 nv_X11_doMakes rfl rfl (k_doMakes_ok S a hA hm (o.2 0).toNat hb) ?_
  rintro _ S' ⟨rfl, ho', hr⟩
  refine x_iretI dX11_doOrder_133 rfl ?_
  exact hok _ _ S' (by unfold exO; rw [if_neg (by omega), if_neg (by omega), if_neg (by omega), if_neg (by omega), if_neg (by omega), if_pos hb]) (by have := (Pre.mks (d := a.1) (κ := (o.2 0).toNat) (by omega)).2.1; omega) ho' hr (arr_makes a1 a2 hb)
set_option maxRecDepth 100000 in
set_option maxHeartbeats 4000000 in
theorem k_dO_m_bad (S : amS) (a : Ar) (hA : Arr a.1 a.2.1 a.2.2) (hm : nRow (S.2.1 1) a) (k : Nat) (hk : k < 50) (o : Od) (ho : OdOK o) (hO : OdAt S k o) (Q : Option Value → amS → Prop) (hok : ∀ n b S', exO a o = .inr b → n < 1000 → On S S' → nRow (S'.2.1 1) b → Arr b.1 b.2.1 b.2.2 → Q (some (.int (nI n))) S') (hbad : ∀ e S', exO a o = .inl e → 2 ≤ e ∧ e ≤ 4 → On S S' → nRow (S'.2.1 1) a → Q (some (.int (i32 (-(e : Int))))) S') (hL : o.1 = 109) (hb : ¬ ((o.2 0).toNat < 4)) : X shM mX11_doOrder 0 [.ref 0, .int (nI k), .null, .null] [] S Q := by
  obtain ⟨a1, a2, a3, a4, a5, a6, a7⟩ := id hA
  have hz : ∀ t, i32 (o.2 t) = nI (o.2 t).toNat := fun t => by rw [nI_i32, Int.toNat_of_nonneg (ho.2.2.1 (by omega) t)]
  have h9 : ∀ t, (o.2 t).toNat ≤ 9 := fun t => by have := ho.2.1 t; omega
  refine x_aload_n dX11_doOrder_0 rfl ?_
  refine x_getR dX11_doOrder_1 fl_X11_79 rfl ?_
  refine x_ic _ ic_4 dX11_doOrder_4 ?_
  refine x_iload_n dX11_doOrder_5 rfl ?_
  refine x_imulN dX11_doOrder_6 ?_
  refine x_ialdN dX11_doOrder_7 rfl rfl (by omega) ((hO.2 0 (by omega)).trans (hz 0)) ?_
  refine x_istore_n dX11_doOrder_8 rfl ?_
  refine x_aload_n dX11_doOrder_9 rfl ?_
  refine x_getR dX11_doOrder_10 fl_X11_79 rfl ?_
  refine x_ic _ ic_4 dX11_doOrder_13 ?_
  refine x_iload_n dX11_doOrder_14 rfl ?_
  refine x_imulN dX11_doOrder_15 ?_
  refine x_ic _ ic_1 dX11_doOrder_16 ?_
  refine x_iaddN dX11_doOrder_17 ?_
  refine x_ialdN dX11_doOrder_18 rfl rfl (by omega) ((hO.2 1 (by omega)).trans (hz 1)) ?_
  refine x_istore_n dX11_doOrder_19 rfl ?_
  refine x_aload_n dX11_doOrder_20 rfl ?_
  refine x_getR dX11_doOrder_21 fl_X11_76 rfl ?_
  refine x_iload_n dX11_doOrder_24 rfl ?_
  refine x_ialdN dX11_doOrder_25 rfl rfl (by omega) (hO.1.trans (by rw [hL] : nI o.1 = nI 109)) ?_
  refine x_lookup 128 dX11_doOrder_26 (by decide) (by decide : Op.lookupswitch.offset _ _ _ = 102) rfl ?_
  refine x_aload_n dX11_doOrder_128 rfl ?_
  refine x_iload_n dX11_doOrder_129 rfl ?_
  refine x_v1 (N := mX11_doMakes) dX11_doOrder_130 ml_X11_190 nv_X11_doMakes rfl rfl (k_doMakes_bad S a hA hm _ (fun z => hb (InR_nI (by have := h9 0; omega) (by omega) z))) ?_
  rintro _ S' ⟨rfl, ho', hr⟩
  refine x_iretI dX11_doOrder_133 rfl ?_
  exact hbad 2 S' (by unfold exO; rw [if_neg (by omega), if_neg (by omega), if_neg (by omega), if_neg (by omega), if_neg (by omega), if_neg hb]) (by omega) ho' hr
set_option maxRecDepth 100000 in
set_option maxHeartbeats 4000000 in
theorem k_dO_p_bad (S : amS) (a : Ar) (hA : Arr a.1 a.2.1 a.2.2) (hm : nRow (S.2.1 1) a) (k : Nat) (hk : k < 50) (o : Od) (ho : OdOK o) (hO : OdAt S k o) (Q : Option Value → amS → Prop) (hok : ∀ n b S', exO a o = .inr b → n < 1000 → On S S' → nRow (S'.2.1 1) b → Arr b.1 b.2.1 b.2.2 → Q (some (.int (nI n))) S') (hbad : ∀ e S', exO a o = .inl e → 2 ≤ e ∧ e ≤ 4 → On S S' → nRow (S'.2.1 1) a → Q (some (.int (i32 (-(e : Int))))) S') (hL : o.1 = 112) (hx : ¬ plOK a.1 (q4 (i32 (o.2 0)) (i32 (o.2 1)) (i32 (o.2 2)) (i32 (o.2 3)))) : X shM mX11_doOrder 0 [.ref 0, .int (nI k), .null, .null] [] S Q := by
  obtain ⟨a1, a2, a3, a4, a5, a6, a7⟩ := id hA
  refine x_aload_n dX11_doOrder_0 rfl ?_
  refine x_getR dX11_doOrder_1 fl_X11_79 rfl ?_
  refine x_ic _ ic_4 dX11_doOrder_4 ?_
  refine x_iload_n dX11_doOrder_5 rfl ?_
  refine x_imulN dX11_doOrder_6 ?_
  refine x_ialdN dX11_doOrder_7 rfl rfl (by omega) (hO.2 0 (by omega)) ?_
  refine x_istore_n dX11_doOrder_8 rfl ?_
  refine x_aload_n dX11_doOrder_9 rfl ?_
  refine x_getR dX11_doOrder_10 fl_X11_79 rfl ?_
  refine x_ic _ ic_4 dX11_doOrder_13 ?_
  refine x_iload_n dX11_doOrder_14 rfl ?_
  refine x_imulN dX11_doOrder_15 ?_
  refine x_ic _ ic_1 dX11_doOrder_16 ?_
  refine x_iaddN dX11_doOrder_17 ?_
  refine x_ialdN dX11_doOrder_18 rfl rfl (by omega) (hO.2 1 (by omega)) ?_
  refine x_istore_n dX11_doOrder_19 rfl ?_
  refine x_aload_n dX11_doOrder_20 rfl ?_
  refine x_getR dX11_doOrder_21 fl_X11_76 rfl ?_
  refine x_iload_n dX11_doOrder_24 rfl ?_
  refine x_ialdN dX11_doOrder_25 rfl rfl (by omega) (hO.1.trans (by rw [hL] : nI o.1 = nI 112)) ?_
  refine x_lookup 82 dX11_doOrder_26 (by decide) (by decide : Op.lookupswitch.offset _ _ _ = 56) rfl ?_
  refine x_aload_n dX11_doOrder_82 rfl ?_
  refine x_iload_n dX11_doOrder_83 rfl ?_
  refine x_iload_n dX11_doOrder_84 rfl ?_
  refine x_aload_n dX11_doOrder_85 rfl ?_
  refine x_getR dX11_doOrder_86 fl_X11_79 rfl ?_
  refine x_ic _ ic_4 dX11_doOrder_89 ?_
  refine x_iload_n dX11_doOrder_90 rfl ?_
  refine x_imulN dX11_doOrder_91 ?_
  refine x_ic _ ic_2 dX11_doOrder_92 ?_
  refine x_iaddN dX11_doOrder_93 ?_
  refine x_ialdN dX11_doOrder_94 rfl rfl (by omega) (hO.2 2 (by omega)) ?_
  refine x_aload_n dX11_doOrder_95 rfl ?_
  refine x_getR dX11_doOrder_96 fl_X11_79 rfl ?_
  refine x_ic _ ic_4 dX11_doOrder_99 ?_
  refine x_iload_n dX11_doOrder_100 rfl ?_
  refine x_imulN dX11_doOrder_101 ?_
  refine x_ic _ ic_3 dX11_doOrder_102 ?_
  refine x_iaddN dX11_doOrder_103 ?_
  refine x_ialdN dX11_doOrder_104 rfl rfl (by omega) (hO.2 3 (by omega)) ?_
  refine x_v4 (N := mX11_doPlane) dX11_doOrder_105 ml_X11_170 nv_X11_doPlane rfl rfl (k_doPlane_bad S a hA hm (i32 (o.2 0)) (i32 (o.2 1)) (i32 (o.2 2)) (i32 (o.2 3)) hx) ?_
  rintro _ S' ⟨rfl, ho', hr⟩
  refine x_iretI dX11_doOrder_108 rfl ?_
  exact hbad 2 S' (by unfold exO; rw [if_neg (by omega), if_pos hL, if_neg hx]) (by omega) ho' hr
set_option maxRecDepth 100000 in
set_option maxHeartbeats 4000000 in
theorem k_dO_p_no (S : amS) (a : Ar) (hA : Arr a.1 a.2.1 a.2.2) (hm : nRow (S.2.1 1) a) (k : Nat) (hk : k < 50) (o : Od) (ho : OdOK o) (hO : OdAt S k o) (Q : Option Value → amS → Prop) (hok : ∀ n b S', exO a o = .inr b → n < 1000 → On S S' → nRow (S'.2.1 1) b → Arr b.1 b.2.1 b.2.2 → Q (some (.int (nI n))) S') (hbad : ∀ e S', exO a o = .inl e → 2 ≤ e ∧ e ≤ 4 → On S S' → nRow (S'.2.1 1) a → Q (some (.int (i32 (-(e : Int))))) S') (hL : o.1 = 112) (hx : plOK a.1 (q4 (i32 (o.2 0)) (i32 (o.2 1)) (i32 (o.2 2)) (i32 (o.2 3)))) (hn : ∃ i, i < a.2.1 ∧ same (a.2.2 i) (plR (q4 (i32 (o.2 0)) (i32 (o.2 1)) (i32 (o.2 2)) (i32 (o.2 3))))) : X shM mX11_doOrder 0 [.ref 0, .int (nI k), .null, .null] [] S Q := by
  obtain ⟨a1, a2, a3, a4, a5, a6, a7⟩ := id hA
  refine x_aload_n dX11_doOrder_0 rfl ?_
  refine x_getR dX11_doOrder_1 fl_X11_79 rfl ?_
  refine x_ic _ ic_4 dX11_doOrder_4 ?_
  refine x_iload_n dX11_doOrder_5 rfl ?_
  refine x_imulN dX11_doOrder_6 ?_
  refine x_ialdN dX11_doOrder_7 rfl rfl (by omega) (hO.2 0 (by omega)) ?_
  refine x_istore_n dX11_doOrder_8 rfl ?_
  refine x_aload_n dX11_doOrder_9 rfl ?_
  refine x_getR dX11_doOrder_10 fl_X11_79 rfl ?_
  refine x_ic _ ic_4 dX11_doOrder_13 ?_
  refine x_iload_n dX11_doOrder_14 rfl ?_
  refine x_imulN dX11_doOrder_15 ?_
  refine x_ic _ ic_1 dX11_doOrder_16 ?_
  refine x_iaddN dX11_doOrder_17 ?_
  refine x_ialdN dX11_doOrder_18 rfl rfl (by omega) (hO.2 1 (by omega)) ?_
  refine x_istore_n dX11_doOrder_19 rfl ?_
  refine x_aload_n dX11_doOrder_20 rfl ?_
  refine x_getR dX11_doOrder_21 fl_X11_76 rfl ?_
  refine x_iload_n dX11_doOrder_24 rfl ?_
  refine x_ialdN dX11_doOrder_25 rfl rfl (by omega) (hO.1.trans (by rw [hL] : nI o.1 = nI 112)) ?_
  refine x_lookup 82 dX11_doOrder_26 (by decide) (by decide : Op.lookupswitch.offset _ _ _ = 56) rfl ?_
  refine x_aload_n dX11_doOrder_82 rfl ?_
  refine x_iload_n dX11_doOrder_83 rfl ?_
  refine x_iload_n dX11_doOrder_84 rfl ?_
  refine x_aload_n dX11_doOrder_85 rfl ?_
  refine x_getR dX11_doOrder_86 fl_X11_79 rfl ?_
  refine x_ic _ ic_4 dX11_doOrder_89 ?_
  refine x_iload_n dX11_doOrder_90 rfl ?_
  refine x_imulN dX11_doOrder_91 ?_
  refine x_ic _ ic_2 dX11_doOrder_92 ?_
  refine x_iaddN dX11_doOrder_93 ?_
  refine x_ialdN dX11_doOrder_94 rfl rfl (by omega) (hO.2 2 (by omega)) ?_
  refine x_aload_n dX11_doOrder_95 rfl ?_
  refine x_getR dX11_doOrder_96 fl_X11_79 rfl ?_
  refine x_ic _ ic_4 dX11_doOrder_99 ?_
  refine x_iload_n dX11_doOrder_100 rfl ?_
  refine x_imulN dX11_doOrder_101 ?_
  refine x_ic _ ic_3 dX11_doOrder_102 ?_
  refine x_iaddN dX11_doOrder_103 ?_
  refine x_ialdN dX11_doOrder_104 rfl rfl (by omega) (hO.2 3 (by omega)) ?_
  refine x_v4 (N := mX11_doPlane) dX11_doOrder_105 ml_X11_170 nv_X11_doPlane rfl rfl (k_doPlane_no S a hA hm (i32 (o.2 0)) (i32 (o.2 1)) (i32 (o.2 2)) (i32 (o.2 3)) hx hn) ?_
  rintro _ S' ⟨rfl, ho', hr⟩
  refine x_iretI dX11_doOrder_108 rfl ?_
  exact hbad 3 S' (by unfold exO; rw [if_neg (by omega), if_pos hL, if_pos hx, if_pos hn]) (by omega) ho' hr
set_option maxRecDepth 100000 in
set_option maxHeartbeats 4000000 in
theorem k_dO_p_full (S : amS) (a : Ar) (hA : Arr a.1 a.2.1 a.2.2) (hm : nRow (S.2.1 1) a) (k : Nat) (hk : k < 50) (o : Od) (ho : OdOK o) (hO : OdAt S k o) (Q : Option Value → amS → Prop) (hok : ∀ n b S', exO a o = .inr b → n < 1000 → On S S' → nRow (S'.2.1 1) b → Arr b.1 b.2.1 b.2.2 → Q (some (.int (nI n))) S') (hbad : ∀ e S', exO a o = .inl e → 2 ≤ e ∧ e ≤ 4 → On S S' → nRow (S'.2.1 1) a → Q (some (.int (i32 (-(e : Int))))) S') (hL : o.1 = 112) (hx : plOK a.1 (q4 (i32 (o.2 0)) (i32 (o.2 1)) (i32 (o.2 2)) (i32 (o.2 3)))) (hn : ∀ i, i < a.2.1 → ¬ same (a.2.2 i) (plR (q4 (i32 (o.2 0)) (i32 (o.2 1)) (i32 (o.2 2)) (i32 (o.2 3))))) (h9 : a.2.1 = 9) : X shM mX11_doOrder 0 [.ref 0, .int (nI k), .null, .null] [] S Q := by
  obtain ⟨a1, a2, a3, a4, a5, a6, a7⟩ := id hA
  refine x_aload_n dX11_doOrder_0 rfl ?_
  refine x_getR dX11_doOrder_1 fl_X11_79 rfl ?_
  refine x_ic _ ic_4 dX11_doOrder_4 ?_
  refine x_iload_n dX11_doOrder_5 rfl ?_
  refine x_imulN dX11_doOrder_6 ?_
  refine x_ialdN dX11_doOrder_7 rfl rfl (by omega) (hO.2 0 (by omega)) ?_
  refine x_istore_n dX11_doOrder_8 rfl ?_
  refine x_aload_n dX11_doOrder_9 rfl ?_
  refine x_getR dX11_doOrder_10 fl_X11_79 rfl ?_
  refine x_ic _ ic_4 dX11_doOrder_13 ?_
  refine x_iload_n dX11_doOrder_14 rfl ?_
  refine x_imulN dX11_doOrder_15 ?_
  refine x_ic _ ic_1 dX11_doOrder_16 ?_
  refine x_iaddN dX11_doOrder_17 ?_
  refine x_ialdN dX11_doOrder_18 rfl rfl (by omega) (hO.2 1 (by omega)) ?_
  refine x_istore_n dX11_doOrder_19 rfl ?_
  refine x_aload_n dX11_doOrder_20 rfl ?_
  refine x_getR dX11_doOrder_21 fl_X11_76 rfl ?_
  refine x_iload_n dX11_doOrder_24 rfl ?_
  refine x_ialdN dX11_doOrder_25 rfl rfl (by omega) (hO.1.trans (by rw [hL] : nI o.1 = nI 112)) ?_
  refine x_lookup 82 dX11_doOrder_26 (by decide) (by decide : Op.lookupswitch.offset _ _ _ = 56) rfl ?_
  refine x_aload_n dX11_doOrder_82 rfl ?_
  refine x_iload_n dX11_doOrder_83 rfl ?_
  refine x_iload_n dX11_doOrder_84 rfl ?_
  refine x_aload_n dX11_doOrder_85 rfl ?_
  refine x_getR dX11_doOrder_86 fl_X11_79 rfl ?_
  refine x_ic _ ic_4 dX11_doOrder_89 ?_
  refine x_iload_n dX11_doOrder_90 rfl ?_
  refine x_imulN dX11_doOrder_91 ?_
  refine x_ic _ ic_2 dX11_doOrder_92 ?_
  refine x_iaddN dX11_doOrder_93 ?_
  refine x_ialdN dX11_doOrder_94 rfl rfl (by omega) (hO.2 2 (by omega)) ?_
  refine x_aload_n dX11_doOrder_95 rfl ?_
  refine x_getR dX11_doOrder_96 fl_X11_79 rfl ?_
  refine x_ic _ ic_4 dX11_doOrder_99 ?_
  refine x_iload_n dX11_doOrder_100 rfl ?_
  refine x_imulN dX11_doOrder_101 ?_
  refine x_ic _ ic_3 dX11_doOrder_102 ?_
  refine x_iaddN dX11_doOrder_103 ?_
  refine x_ialdN dX11_doOrder_104 rfl rfl (by omega) (hO.2 3 (by omega)) ?_
  refine x_v4 (N := mX11_doPlane) dX11_doOrder_105 ml_X11_170 nv_X11_doPlane rfl rfl (k_doPlane_full S a hA hm (i32 (o.2 0)) (i32 (o.2 1)) (i32 (o.2 2)) (i32 (o.2 3)) hx hn h9) ?_
  rintro _ S' ⟨rfl, ho', hr⟩
  refine x_iretI dX11_doOrder_108 rfl ?_
  exact hbad 4 S' (by unfold exO; rw [if_neg (by omega), if_pos hL, if_pos hx, if_neg (fun z => by obtain ⟨i, z1, z2⟩ := z; exact hn i z1 z2), if_pos h9]) (by omega) ho' hr
set_option maxRecDepth 100000 in
set_option maxHeartbeats 4000000 in
theorem k_dO_p_ok (S : amS) (a : Ar) (hA : Arr a.1 a.2.1 a.2.2) (hm : nRow (S.2.1 1) a) (k : Nat) (hk : k < 50) (o : Od) (ho : OdOK o) (hO : OdAt S k o) (Q : Option Value → amS → Prop) (hok : ∀ n b S', exO a o = .inr b → n < 1000 → On S S' → nRow (S'.2.1 1) b → Arr b.1 b.2.1 b.2.2 → Q (some (.int (nI n))) S') (hbad : ∀ e S', exO a o = .inl e → 2 ≤ e ∧ e ≤ 4 → On S S' → nRow (S'.2.1 1) a → Q (some (.int (i32 (-(e : Int))))) S') (hL : o.1 = 112) (hx : plOK a.1 (q4 (i32 (o.2 0)) (i32 (o.2 1)) (i32 (o.2 2)) (i32 (o.2 3)))) (hn : ∀ i, i < a.2.1 → ¬ same (a.2.2 i) (plR (q4 (i32 (o.2 0)) (i32 (o.2 1)) (i32 (o.2 2)) (i32 (o.2 3))))) (h9 : a.2.1 < 9) : X shM mX11_doOrder 0 [.ref 0, .int (nI k), .null, .null] [] S Q := by
  obtain ⟨a1, a2, a3, a4, a5, a6, a7⟩ := id hA
  refine x_aload_n dX11_doOrder_0 rfl ?_
  refine x_getR dX11_doOrder_1 fl_X11_79 rfl ?_
  refine x_ic _ ic_4 dX11_doOrder_4 ?_
  refine x_iload_n dX11_doOrder_5 rfl ?_
  refine x_imulN dX11_doOrder_6 ?_
  refine x_ialdN dX11_doOrder_7 rfl rfl (by omega) (hO.2 0 (by omega)) ?_
  refine x_istore_n dX11_doOrder_8 rfl ?_
  refine x_aload_n dX11_doOrder_9 rfl ?_
  refine x_getR dX11_doOrder_10 fl_X11_79 rfl ?_
  refine x_ic _ ic_4 dX11_doOrder_13 ?_
  refine x_iload_n dX11_doOrder_14 rfl ?_
  refine x_imulN dX11_doOrder_15 ?_
  refine x_ic _ ic_1 dX11_doOrder_16 ?_
  refine x_iaddN dX11_doOrder_17 ?_
  refine x_ialdN dX11_doOrder_18 rfl rfl (by omega) (hO.2 1 (by omega)) ?_
  refine x_istore_n dX11_doOrder_19 rfl ?_
  refine x_aload_n dX11_doOrder_20 rfl ?_
  refine x_getR dX11_doOrder_21 fl_X11_76 rfl ?_
  refine x_iload_n dX11_doOrder_24 rfl ?_
  refine x_ialdN dX11_doOrder_25 rfl rfl (by omega) (hO.1.trans (by rw [hL] : nI o.1 = nI 112)) ?_
  refine x_lookup 82 dX11_doOrder_26 (by decide) (by decide : Op.lookupswitch.offset _ _ _ = 56) rfl ?_
  refine x_aload_n dX11_doOrder_82 rfl ?_
  refine x_iload_n dX11_doOrder_83 rfl ?_
  refine x_iload_n dX11_doOrder_84 rfl ?_
  refine x_aload_n dX11_doOrder_85 rfl ?_
  refine x_getR dX11_doOrder_86 fl_X11_79 rfl ?_
  refine x_ic _ ic_4 dX11_doOrder_89 ?_
  refine x_iload_n dX11_doOrder_90 rfl ?_
  refine x_imulN dX11_doOrder_91 ?_
  refine x_ic _ ic_2 dX11_doOrder_92 ?_
  refine x_iaddN dX11_doOrder_93 ?_
  refine x_ialdN dX11_doOrder_94 rfl rfl (by omega) (hO.2 2 (by omega)) ?_
  refine x_aload_n dX11_doOrder_95 rfl ?_
  refine x_getR dX11_doOrder_96 fl_X11_79 rfl ?_
  refine x_ic _ ic_4 dX11_doOrder_99 ?_
  refine x_iload_n dX11_doOrder_100 rfl ?_
  refine x_imulN dX11_doOrder_101 ?_
  refine x_ic _ ic_3 dX11_doOrder_102 ?_
  refine x_iaddN dX11_doOrder_103 ?_
  refine x_ialdN dX11_doOrder_104 rfl rfl (by omega) (hO.2 3 (by omega)) ?_
  refine x_v4 (N := mX11_doPlane) dX11_doOrder_105 ml_X11_170 nv_X11_doPlane rfl rfl (k_doPlane_ok S a hA hm (i32 (o.2 0)) (i32 (o.2 1)) (i32 (o.2 2)) (i32 (o.2 3)) hx hn h9) ?_
  rintro _ S' ⟨rfl, ho', hr⟩
  refine x_iretI dX11_doOrder_108 rfl ?_
  exact hok _ _ S' (by unfold exO; rw [if_neg (by omega), if_pos hL, if_pos hx, if_neg (fun z => by obtain ⟨i, z1, z2⟩ := z; exact hn i z1 z2), if_neg (by omega)]) (by omega) ho' hr (arr_plane hA hx h9 hn)
set_option maxRecDepth 100000 in
set_option maxHeartbeats 4000000 in
theorem k_doOrder (S : amS) (a : Ar) (hA : Arr a.1 a.2.1 a.2.2) (hm : nRow (S.2.1 1) a) (k : Nat) (hk : k < 50) (o : Od) (ho : OdOK o) (hO : OdAt S k o) (Q : Option Value → amS → Prop) (hok : ∀ n b S', exO a o = .inr b → n < 1000 → On S S' → nRow (S'.2.1 1) b → Arr b.1 b.2.1 b.2.2 → Q (some (.int (nI n))) S') (hbad : ∀ e S', exO a o = .inl e → 2 ≤ e ∧ e ≤ 4 → On S S' → nRow (S'.2.1 1) a → Q (some (.int (i32 (-(e : Int))))) S') : X shM mX11_doOrder 0 [.ref 0, .int (nI k), .null, .null] [] S Q := by
  have h9 := hA.2.2.1
  rcases ho.1 with hL | hL | hL | hL | hL | hL
  · by_cases hx : plOK a.1 (q4 (i32 (o.2 0)) (i32 (o.2 1)) (i32 (o.2 2)) (i32 (o.2 3)))
    · by_cases hn : ∃ i, i < a.2.1 ∧ same (a.2.2 i) (plR (q4 (i32 (o.2 0)) (i32 (o.2 1)) (i32 (o.2 2)) (i32 (o.2 3))))
      · exact k_dO_p_no S a hA hm k hk o ho hO Q hok hbad hL hx hn
      · have hn' : ∀ i, i < a.2.1 → ¬ same (a.2.2 i) (plR (q4 (i32 (o.2 0)) (i32 (o.2 1)) (i32 (o.2 2)) (i32 (o.2 3)))) := fun i z1 z2 => hn ⟨i, z1, z2⟩
        by_cases h : a.2.1 = 9
        · exact k_dO_p_full S a hA hm k hk o ho hO Q hok hbad hL hx hn' h
        · exact k_dO_p_ok S a hA hm k hk o ho hO Q hok hbad hL hx hn' (by omega)
    · exact k_dO_p_bad S a hA hm k hk o ho hO Q hok hbad hL hx
  · by_cases hb : (o.2 0).toNat < a.2.1 ∧ (o.2 1).toNat < a.2.1 ∧ (o.2 0).toNat ≠ (o.2 1).toNat
    · exact k_dO_s_ok S a hA hm k hk o ho hO Q hok hbad hL hb
    · exact k_dO_s_bad S a hA hm k hk o ho hO Q hok hbad hL hb
  · exact k_dO_d_ok S a hA hm k hk o ho hO Q hok hbad hL
  · by_cases hb : (o.2 0).toNat < a.2.1
    · exact k_dO_t_ok S a hA hm k hk o ho hO Q hok hbad hL hb
    · exact k_dO_t_bad S a hA hm k hk o ho hO Q hok hbad hL hb
  · by_cases hb : (o.2 0).toNat < a.2.1
    · exact k_dO_x_ok S a hA hm k hk o ho hO Q hok hbad hL hb
    · exact k_dO_x_bad S a hA hm k hk o ho hO Q hok hbad hL hb
  · by_cases hb : (o.2 0).toNat < 4
    · exact k_dO_m_ok S a hA hm k hk o ho hO Q hok hbad hL hb
    · exact k_dO_m_bad S a hA hm k hk o ho hO Q hok hbad hL hb
