/-! THE ABSTRACT MACHINE: a world of a fixed shape (objects whose references never change, rows of fixed lengths), named by small numbers; 'X h M pc loc st S Q': from this point of method M the machine comes to its end with Q answer state. -/
/-- int fields (object, slot), int rows (row, place), long fields, long rows -/
abbrev amS : Type := (Nat → Nat → Int32) × (Nat → Nat → Int32) × (Nat → Nat → Int64) × (Nat → Nat → Int64)
/-- a row: length, type, what it holds if references; an object: its kind, its fields: int, long, or a fixed reference -/
abbrev amSh : Type := (Nat × FieldType × List Nat) ⊕ (Nat × List Value)
/-- a method: name, code, locals, answer's type, frames and locals that its calls need -/
abbrev amM : Type := MethodName × ByteArray × Nat × Option FieldType × Nat × Nat
def am_cv (ad : Nat → Nat) : Value → Value
  | .ref r => .ref (ad r)
  | v => v
def am_ld : List Value → Nat → Value
  | [], _ => .null
  | v :: _, 0 => v
  | _ :: l, n + 1 => am_ld l n
def am_shp : List amSh → Nat → Option amSh
  | [], _ => none
  | v :: _, 0 => some v
  | _ :: l, n + 1 => am_shp l n
def am_st (v : Value) (i : Nat) : Nat → List Value → List Value
  | _, [] => []
  | j, w :: l => (bif Nat.beq j i then v else bif (Nat.beq (j + 1) i && Nat.beq w.category 2) || (Nat.beq j (i + 1) && Nat.beq v.category 2) then .null else w) :: am_st v i (j + 1) l
def am_rd (S : amS) (o k : Nat) : Value → Value
  | .int _ => .int (S.1 o k)
  | .long _ => .long (S.2.2.1 o k)
  | v => v
/-- what a field holds -/
def am_gf (h : List amSh) (S : amS) (o ci k : Nat) : Option Value :=
  match am_shp h o with
  | some (.inr (c, tpl)) => bif Nat.beq c ci then some (am_rd S o k (am_ld tpl k)) else none
  | _ => none
def am_fs (ad : Nat → Nat) (S : amS) (o : Nat) (tpl : List Value) : List Value := tpl.mapIdx (fun k t => am_cv ad (am_rd S o k t))
def am_arr (ad : Nat → Nat) (S : amS) (id : Nat) (ty : FieldType) (ids : List Nat) : (Nat → Int32) ⊕ (Nat → Int64) ⊕ (Nat → UInt32) ⊕ (Nat → UInt64) ⊕ (Nat → Option Nat) :=
  match ty with
  | .long => .inr (.inl (S.2.2.2 id))
  | .object _ => .inr (.inr (.inr (.inr (fun j => (ids[j]?).map ad))))
  | _ => .inl (S.2.1 id)
def am_cell (ad : Nat → Nat) (ca : Nat → ClassId) (S : amS) (id : Nat) : amSh → va_E
  | .inl (n, ty, ids) => .inl (ca id, n, am_arr ad S id ty ids)
  | .inr (ci, tpl) => .inr (ci, am_fs ad S id tpl)
def am_world (h : List amSh) (ad : Nat → Nat) (ca : Nat → ClassId) (S : amS) : va_W := h.mapIdx (fun id sh => (ad id, am_cell ad ca S id sh))
def am_tyOf (ca : Nat → ClassId) (q : amSh × Nat) : Option (ClassId × FieldType) :=
  match q.1 with
  | .inl (_, ty, _) => some (ca q.2, ty)
  | .inr _ => none
def am_tys (h : List amSh) (ca : Nat → ClassId) : List (ClassId × FieldType) := h.zipIdx.filterMap (am_tyOf ca)
def am_A (h : List amSh) (ad : Nat → Nat) : Nat → Prop := fun q => ∃ i, i < h.length ∧ q = ad i
def sF (S : amS) (o : Nat) (g : Nat → Int32) : amS := (va_up S.1 o g, S.2)
def sA (S : amS) (o : Nat) (g : Nat → Int32) : amS := (S.1, va_up S.2.1 o g, S.2.2)
def sG (S : amS) (o : Nat) (g : Nat → Int64) : amS := (S.1, S.2.1, va_up S.2.2.1 o g, S.2.2.2)
def sL (S : amS) (o : Nat) (g : Nat → Int64) : amS := (S.1, S.2.1, S.2.2.1, va_up S.2.2.2 o g)
theorem am_shp_get : ∀ (h : List amSh) (i : Nat), am_shp h i = h[i]?
  | [], i => by simp [am_shp]
  | v :: l, 0 => by simp [am_shp]
  | v :: l, n + 1 => by simp [am_shp, am_shp_get l n]
theorem am_ld_get : ∀ (l : List Value) (i : Nat), am_ld l i = (l[i]?).getD .null
  | [], i => by simp [am_ld]
  | v :: l, 0 => by simp [am_ld]
  | v :: l, n + 1 => by simp [am_ld, am_ld_get l n]
theorem am_ld_some {l : List Value} {i : Nat} {v : Value} (h : am_ld l i = v) (hv : v ≠ .null) : l[i]? = some v := by
  rw [am_ld_get] at h
  cases e : l[i]? with
  | none => rw [e] at h; exact absurd h.symm hv
  | some w => rw [e] at h; exact congrArg some h
theorem am_st_len (v : Value) (i : Nat) : ∀ (l : List Value) (j : Nat), (am_st v i j l).length = l.length
  | [], j => rfl
  | w :: l, j => by simp [am_st, am_st_len v i l (j + 1)]
theorem am_st_get (v : Value) (i : Nat) : ∀ (l : List Value) (j k : Nat), (am_st v i j l)[k]? = (l[k]?).map (fun w => bif Nat.beq (j + k) i then v else bif (Nat.beq (j + k + 1) i && Nat.beq w.category 2) || (Nat.beq (j + k) (i + 1) && Nat.beq v.category 2) then .null else w)
  | [], j, k => by simp [am_st]
  | w :: l, j, 0 => by simp [am_st]
  | w :: l, j, k + 1 => by
    rw [am_st, List.getElem?_cons_succ, List.getElem?_cons_succ, am_st_get v i l (j + 1) k, show j + 1 + k = j + (k + 1) by omega]
theorem am_world_get {h : List amSh} {ad : Nat → Nat} {ca : Nat → ClassId} {S : amS} {id : Nat} {sh : amSh} (e : h[id]? = some sh) : (am_world h ad ca S)[id]? = some (ad id, am_cell ad ca S id sh) := by
  simp [am_world, List.getElem?_mapIdx, e]
theorem am_world_len {h : List amSh} {ad : Nat → Nat} {ca : Nat → ClassId} {S : amS} : (am_world h ad ca S).length = h.length := by simp [am_world]
theorem am_D {h : List amSh} {ad : Nat → Nat} (ca : Nat → ClassId) (S : amS) (inj : ∀ i j, i < h.length → j < h.length → ad i = ad j → i = j) : va_D (am_A h ad) (am_world h ad ca S) := by
  have key : ∀ (k : Nat) (q : Nat × va_E), (am_world h ad ca S)[k]? = some q → k < h.length ∧ q.1 = ad k := by
    intro k q hq
    have hk : k < (am_world h ad ca S).length := (List.getElem?_eq_some_iff.mp hq).1
    rw [am_world_len] at hk
    obtain ⟨sh, e⟩ : ∃ sh, h[k]? = some sh := ⟨h[k], by simp [hk]⟩
    rw [am_world_get e] at hq
    cases hq
    exact ⟨hk, rfl⟩
  refine ⟨fun i j p q hi hj e => ?_, fun k q hk => ?_⟩
  · obtain ⟨a1, a2⟩ := key i p hi
    obtain ⟨b1, b2⟩ := key j q hj
    exact inj i j a1 b1 (by rw [← a2, ← b2, e])
  · obtain ⟨a1, a2⟩ := key k q hk
    exact ⟨k, a1, a2⟩
theorem am_tys_get {h : List amSh} {ca : Nat → ClassId} {id n : Nat} {ty : FieldType} {ids : List Nat} (e : h[id]? = some (.inl (n, ty, ids))) : ∃ t0 : Nat, (am_tys h ca)[t0]? = some (ca id, ty) := by
  have hm : (ca id, ty) ∈ am_tys h ca := by
    refine List.mem_filterMap.mpr ⟨(.inl (n, ty, ids), id), ?_, rfl⟩
    exact List.mem_zipIdx_iff_getElem?.mpr e
  exact List.getElem?_of_mem hm
theorem va_up_s {α : Type} (f : Nat → α) (k : Nat) (v : α) : va_up f k v k = v := by simp [va_up]
theorem va_up_n {α : Type} (f : Nat → α) {k j : Nat} (v : α) (h : j ≠ k) : va_up f k v j = f j := by simp [va_up, h]
/-- a changed cell alone: the world is the old one with that cell set -/
theorem am_world_set {h : List amSh} {ad : Nat → Nat} {ca : Nat → ClassId} {S S' : amS} {id : Nat} {sh : amSh} (e : h[id]? = some sh) (ho : ∀ j sh', j ≠ id → am_cell ad ca S' j sh' = am_cell ad ca S j sh') : am_world h ad ca S' = (am_world h ad ca S).set id (ad id, am_cell ad ca S' id sh) := by
  apply List.ext_getElem?
  intro j
  have hid : id < h.length := (List.getElem?_eq_some_iff.mp e).1
  by_cases hj : j = id
  · subst hj
    rw [am_world_get e, List.getElem?_set_self (by rw [am_world_len]; exact hid)]
  · rw [List.getElem?_set_ne (Ne.symm hj)]
    by_cases hl : j < h.length
    · have e2 : h[j]? = some h[j] := by simp [hl]
      rw [am_world_get e2, am_world_get e2, ho j _ hj]
    · rw [List.getElem?_eq_none (by rw [am_world_len]; omega), List.getElem?_eq_none (by rw [am_world_len]; omega)]
theorem am_cell_sA {ad : Nat → Nat} {ca : Nat → ClassId} {S : amS} {id : Nat} {g : Nat → Int32} (j : Nat) (sh : amSh) (hj : j ≠ id) : am_cell ad ca (sA S id g) j sh = am_cell ad ca S j sh := by
  cases sh with
  | inl a =>
    obtain ⟨n, ty, ids⟩ := a
    cases ty <;> simp [am_cell, am_arr, sA, va_up, hj]
  | inr a => rfl
theorem am_cell_sL {ad : Nat → Nat} {ca : Nat → ClassId} {S : amS} {id : Nat} {g : Nat → Int64} (j : Nat) (sh : amSh) (hj : j ≠ id) : am_cell ad ca (sL S id g) j sh = am_cell ad ca S j sh := by
  cases sh with
  | inl a =>
    obtain ⟨n, ty, ids⟩ := a
    cases ty <;> simp [am_cell, am_arr, sL, va_up, hj]
  | inr a => rfl
theorem am_cell_sF {ad : Nat → Nat} {ca : Nat → ClassId} {S : amS} {id : Nat} {g : Nat → Int32} (j : Nat) (sh : amSh) (hj : j ≠ id) : am_cell ad ca (sF S id g) j sh = am_cell ad ca S j sh := by
  cases sh with
  | inl a => rfl
  | inr a =>
    obtain ⟨ci, tpl⟩ := a
    have : am_rd (sF S id g) j = am_rd S j := by
      funext k v
      cases v <;> simp [am_rd, sF, va_up, hj]
    simp [am_cell, am_fs, this]
theorem am_cell_sG {ad : Nat → Nat} {ca : Nat → ClassId} {S : amS} {id : Nat} {g : Nat → Int64} (j : Nat) (sh : amSh) (hj : j ≠ id) : am_cell ad ca (sG S id g) j sh = am_cell ad ca S j sh := by
  cases sh with
  | inl a => rfl
  | inr a =>
    obtain ⟨ci, tpl⟩ := a
    have : am_rd (sG S id g) j = am_rd S j := by
      funext k v
      cases v <;> simp [am_rd, sG, va_up, hj]
    simp [am_cell, am_fs, this]
theorem am_fs_get {ad : Nat → Nat} {S : amS} {o k : Nat} {tpl : List Value} {t : Value} (e : tpl[k]? = some t) : (am_fs ad S o tpl)[k]? = some (am_cv ad (am_rd S o k t)) := by
  simp [am_fs, List.getElem?_mapIdx, e]
theorem am_fs_sF {ad : Nat → Nat} {S : amS} {o k : Nat} {tpl : List Value} {x y : Int32} (e : tpl[k]? = some (.int y)) : am_fs ad (sF S o (upd (S.1 o) k x)) o tpl = (am_fs ad S o tpl).set k (.int x) := by
  have hk : k < tpl.length := (List.getElem?_eq_some_iff.mp e).1
  apply List.ext_getElem?
  intro j
  by_cases hj : j = k
  · subst hj
    rw [am_fs_get e, List.getElem?_set_self (by simp [am_fs]; exact hk)]
    simp [am_rd, sF, va_up, upd, am_cv]
  · rw [List.getElem?_set_ne (Ne.symm hj)]
    by_cases hl : j < tpl.length
    · have e2 : tpl[j]? = some tpl[j] := by simp [hl]
      rw [am_fs_get e2, am_fs_get e2]
      cases tpl[j] <;> simp [am_rd, sF, va_up, upd, hj]
    · rw [List.getElem?_eq_none (by simp [am_fs]; omega), List.getElem?_eq_none (by simp [am_fs]; omega)]
theorem am_fs_sG {ad : Nat → Nat} {S : amS} {o k : Nat} {tpl : List Value} {x y : Int64} (e : tpl[k]? = some (.long y)) : am_fs ad (sG S o (vp_updL (S.2.2.1 o) k x)) o tpl = (am_fs ad S o tpl).set k (.long x) := by
  have hk : k < tpl.length := (List.getElem?_eq_some_iff.mp e).1
  apply List.ext_getElem?
  intro j
  by_cases hj : j = k
  · subst hj
    rw [am_fs_get e, List.getElem?_set_self (by simp [am_fs]; exact hk)]
    simp [am_rd, sG, va_up, vp_updL, am_cv]
  · rw [List.getElem?_set_ne (Ne.symm hj)]
    by_cases hl : j < tpl.length
    · have e2 : tpl[j]? = some tpl[j] := by simp [hl]
      rw [am_fs_get e2, am_fs_get e2]
      cases tpl[j] <;> simp [am_rd, sG, va_up, vp_updL, hj]
    · rw [List.getElem?_eq_none (by simp [am_fs]; omega), List.getElem?_eq_none (by simp [am_fs]; omega)]
