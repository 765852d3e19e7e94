/-! RANKS, over whole numbers (q = 0) or modulo a prime q: by columns, a function of the span alone -/
abbrev Row : Type := Nat → Int
/-- what is 0 modulo q: a product is only if a factor is; 1 isn't -/
def Dom (q : Int) : Prop := (¬ q ∣ 1) ∧ ∀ a b : Int, q ∣ a * b → q ∣ a ∨ q ∣ b
def lcb (c : Nat → Int) : List Row → Nat → Int
  | [], _ => 0
  | r :: l, j => c 0 * r j + lcb (fun k => c (k + 1)) l j
/-- x is in the span of l, in the columns js -/
def Sp (q : Int) (js : List Nat) (l : List Row) (x : Row) : Prop := ∃ a : Int, (¬ q ∣ a) ∧ ∃ c : Nat → Int, ∀ j ∈ js, q ∣ a * x j - lcb c l j
def el (x : Row) (j : Nat) (r : Row) : Row := fun k => x j * r k - r j * x k
noncomputable def pv (q : Int) (j : Nat) : List Row → Option Row
  | [] => none
  | r :: l => @ite _ (q ∣ r j) (Classical.propDecidable _) (pv q j l) (some r)
noncomputable def rkC (q : Int) : List Nat → List Row → Nat
  | [], _ => 0
  | j :: js, l => match pv q j l with
    | none => rkC q js l
    | some x => 1 + rkC q js (l.map (el x j))
theorem rkC_s {q : Int} {j : Nat} {js : List Nat} {l : List Row} {x : Row} (e : pv q j l = some x) : rkC q (j :: js) l = 1 + rkC q js (l.map (el x j)) := by
  show (match pv q j l with | none => rkC q js l | some x => 1 + rkC q js (l.map (el x j))) = _
  rw [e]
theorem rkC_n {q : Int} {j : Nat} {js : List Nat} {l : List Row} (e : pv q j l = none) : rkC q (j :: js) l = rkC q js l := by
  show (match pv q j l with | none => rkC q js l | some x => 1 + rkC q js (l.map (el x j))) = _
  rw [e]
theorem pv_none {q : Int} {j : Nat} {l : List Row} (h : pv q j l = none) : ∀ r ∈ l, q ∣ r j := by
  induction l with
  | nil => intro r hr; cases hr
  | cons a l ih =>
    intro r hr
    unfold pv at h
    by_cases ha : q ∣ a j
    · rw [if_pos ha] at h
      rcases List.mem_cons.mp hr with rfl | hr
      · exact ha
      · exact ih h r hr
    · rw [if_neg ha] at h
      cases h
theorem pv_some {q : Int} {j : Nat} {l : List Row} {x : Row} (h : pv q j l = some x) : x ∈ l ∧ ¬ q ∣ x j := by
  induction l with
  | nil => cases h
  | cons a l ih =>
    unfold pv at h
    by_cases ha : q ∣ a j
    · rw [if_pos ha] at h
      exact ⟨List.mem_cons_of_mem _ (ih h).1, (ih h).2⟩
    · rw [if_neg ha] at h
      cases h
      exact ⟨List.mem_cons_self, ha⟩
theorem pv_all {q : Int} {j : Nat} {l : List Row} (h : ∀ r ∈ l, q ∣ r j) : pv q j l = none := by
  cases e : pv q j l with
  | none => rfl
  | some x => exact absurd (h x (pv_some e).1) (pv_some e).2
theorem lcb_zero (l : List Row) (j : Nat) : lcb (fun _ => 0) l j = 0 := by
  induction l with
  | nil => rfl
  | cons r l ih => simp only [lcb, ih]; omega
theorem lcb_lin (a b : Int) (c e : Nat → Int) (l : List Row) (j : Nat) : lcb (fun k => a * c k + b * e k) l j = a * lcb c l j + b * lcb e l j := by
  induction l generalizing c e with
  | nil => simp [lcb]
  | cons r l ih =>
    simp only [lcb]
    rw [ih (fun k => c (k + 1)) (fun k => e (k + 1))]
    grind
theorem lcb_smul (a : Int) (c : Nat → Int) (l : List Row) (j : Nat) : lcb (fun k => a * c k) l j = a * lcb c l j := by
  induction l generalizing c with
  | nil => simp [lcb]
  | cons r l ih =>
    simp only [lcb]
    rw [ih (fun k => c (k + 1))]
    grind
theorem lcb_dvd {q : Int} (c : Nat → Int) (l : List Row) (j : Nat) (h : ∀ r ∈ l, q ∣ r j) : q ∣ lcb c l j := by
  induction l generalizing c with
  | nil => exact Int.dvd_zero q
  | cons r l ih =>
    simp only [lcb]
    exact Int.dvd_add (Int.dvd_mul_of_dvd_right (h r List.mem_cons_self)) (ih _ fun s hs => h s (List.mem_cons_of_mem _ hs))
theorem Dom.mul {q : Int} (hq : Dom q) {a b : Int} (ha : ¬ q ∣ a) (hb : ¬ q ∣ b) : ¬ q ∣ a * b := fun h => (hq.2 a b h).elim ha hb
/-- a member is in the span -/
theorem Sp.mem {q : Int} (hq : Dom q) (js : List Nat) {l : List Row} {x : Row} (h : x ∈ l) : Sp q js l x := by
  refine ⟨1, hq.1, ?_⟩
  induction l with
  | nil => cases h
  | cons r l ih =>
    rcases List.mem_cons.mp h with rfl | h
    · refine ⟨fun k => if k = 0 then 1 else 0, fun j _ => ?_⟩
      have : lcb (fun k => if k + 1 = 0 then (1 : Int) else 0) l j = 0 := lcb_zero l j
      simp only [lcb, if_true, this]
      exact ⟨0, by omega⟩
    · obtain ⟨c, hc⟩ := ih h
      refine ⟨fun k => if k = 0 then 0 else c (k - 1), fun j hj => ?_⟩
      have : (fun k => (if k + 1 = 0 then (0 : Int) else c (k + 1 - 1))) = c := by funext k; simp
      simp only [lcb, if_true, this]
      obtain ⟨d, hd⟩ := hc j hj
      exact ⟨d, by omega⟩
/-- sums of what is in the span, are -/
theorem Sp.comb {q : Int} (hq : Dom q) {js : List Nat} {l l' : List Row} (h : ∀ y ∈ l, Sp q js l' y) (c : Nat → Int) : ∃ e : Int, (¬ q ∣ e) ∧ ∃ c' : Nat → Int, ∀ j ∈ js, q ∣ e * lcb c l j - lcb c' l' j := by
  induction l generalizing c with
  | nil => exact ⟨1, hq.1, fun _ => 0, fun j _ => ⟨0, by rw [lcb_zero]; simp [lcb]⟩⟩
  | cons r l ih =>
    obtain ⟨e, he, c1, h1⟩ := ih (fun y hy => h y (List.mem_cons_of_mem _ hy)) (fun k => c (k + 1))
    obtain ⟨b, hb, d, h2⟩ := h r List.mem_cons_self
    refine ⟨e * b, hq.mul he hb, fun k => (e * c 0) * d k + b * c1 k, fun j hj => ?_⟩
    obtain ⟨u, hu⟩ := h1 j hj
    obtain ⟨w, hw⟩ := h2 j hj
    rw [lcb_lin]
    simp only [lcb]
    refine ⟨e * c 0 * w + b * u, ?_⟩
    grind
theorem Sp.trans {q : Int} (hq : Dom q) {js : List Nat} {l l' : List Row} {x : Row} (h : ∀ y ∈ l, Sp q js l' y) (hx : Sp q js l x) : Sp q js l' x := by
  obtain ⟨a, ha, c, hc⟩ := hx
  obtain ⟨e, he, c', h'⟩ := Sp.comb hq h c
  refine ⟨e * a, hq.mul he ha, c', fun j hj => ?_⟩
  obtain ⟨u, hu⟩ := hc j hj
  obtain ⟨w, hw⟩ := h' j hj
  exact ⟨e * u + w, by grind⟩
theorem Sp.sub {q : Int} (hq : Dom q) {js : List Nat} {l l' : List Row} {x : Row} (h : ∀ y ∈ l, y ∈ l') (hx : Sp q js l x) : Sp q js l' x := Sp.trans hq (fun y hy => Sp.mem hq js (h y hy)) hx
theorem Sp.cols {q : Int} {js js' : List Nat} {l : List Row} {x : Row} (h : ∀ j ∈ js', j ∈ js) (hx : Sp q js l x) : Sp q js' l x := by
  obtain ⟨a, ha, c, hc⟩ := hx
  exact ⟨a, ha, c, fun j hj => hc j (h j hj)⟩
theorem lcb_el (c : Nat → Int) (x : Row) (j : Nat) (l : List Row) (k : Nat) : lcb c (l.map (el x j)) k = x j * lcb c l k - lcb c l j * x k := by
  induction l generalizing c with
  | nil => simp [lcb]
  | cons r l ih =>
    simp only [List.map_cons, lcb, ih, el]
    grind
/-- what is in the span and 0 in the pivot's column: the span of the eliminated rows -/
theorem Sp.el_iff {q : Int} (hq : Dom q) {j : Nat} {js : List Nat} {l : List Row} {x y : Row} (hx : x ∈ l) (hn : ¬ q ∣ x j) (hy : q ∣ y j) : Sp q (j :: js) l y ↔ Sp q js (l.map (el x j)) y := by
  constructor
  · rintro ⟨a, ha, c, hc⟩
    refine ⟨x j * a, hq.mul hn ha, c, fun k hk => ?_⟩
    obtain ⟨u, hu⟩ := hc j List.mem_cons_self
    obtain ⟨w, hw⟩ := hc k (List.mem_cons_of_mem _ hk)
    obtain ⟨z, hz⟩ := hy
    rw [lcb_el]
    exact ⟨x j * w + (a * z - u) * x k, by grind⟩
  · intro h
    have h2 : Sp q (j :: js) (l.map (el x j)) y := by
      obtain ⟨a, ha, c, hc⟩ := h
      refine ⟨a, ha, c, fun k hk => ?_⟩
      rcases List.mem_cons.mp hk with rfl | hk
      · have h0 : lcb c (l.map (el x k)) k = 0 := by rw [lcb_el]; grind
        rw [h0]
        obtain ⟨z, hz⟩ := hy
        exact ⟨a * z, by grind⟩
      · exact hc k hk
    refine Sp.trans hq (fun r hr => ?_) h2
    obtain ⟨r0, hr0, rfl⟩ := List.mem_map.mp hr
    have := Sp.comb hq (js := j :: js) (l := [r0, x]) (l' := l) (fun y hy => by
      rcases List.mem_cons.mp hy with rfl | hy
      · exact Sp.mem hq _ hr0
      · rw [List.mem_singleton.mp hy]; exact Sp.mem hq _ hx) (fun k => if k = 0 then x j else - r0 j)
    obtain ⟨e, he, c', h'⟩ := this
    refine ⟨e, he, c', fun k hk => ?_⟩
    obtain ⟨u, hu⟩ := h' k hk
    refine ⟨u, ?_⟩
    simp only [lcb] at hu
    simp only [el]
    rw [← hu]
    simp
    grind
theorem Sp.zero {q : Int} (hq : Dom q) {js : List Nat} {l : List Row} {y : Row} (h : ∀ j ∈ js, q ∣ y j) : Sp q js l y := by
  refine ⟨1, hq.1, fun _ => 0, fun j hj => ?_⟩
  rw [lcb_zero]
  obtain ⟨u, hu⟩ := h j hj
  exact ⟨u, by omega⟩
/-- a greater span has no smaller rank -/
theorem rkC_mono {q : Int} (hq : Dom q) : ∀ (js : List Nat) (l l' : List Row), (∀ x ∈ l, Sp q js l' x) → rkC q js l ≤ rkC q js l' := by
  intro js
  induction js with
  | nil => intro l l' _; exact Nat.le_refl _
  | cons j js ih =>
    intro l l' h
    unfold rkC
    cases e : pv q j l with
    | none =>
      have h0 := pv_none e
      cases e' : pv q j l' with
      | none => exact ih l l' (fun x hx => (h x hx).cols fun k hk => List.mem_cons_of_mem _ hk)
      | some x' =>
        obtain ⟨a1, a2⟩ := pv_some e'
        have := ih l (l'.map (el x' j)) (fun x hx => (Sp.el_iff hq a1 a2 (h0 x hx)).mp (h x hx))
        dsimp only
        omega
    | some x =>
      obtain ⟨b1, b2⟩ := pv_some e
      cases e' : pv q j l' with
      | none =>
        exfalso
        obtain ⟨a, ha, c, hc⟩ := h x b1
        have h1 := hc j List.mem_cons_self
        have h2 := lcb_dvd c l' j (pv_none e')
        have h3 : q ∣ a * x j := by
          have := Int.dvd_add h1 h2
          rwa [Int.sub_add_cancel] at this
        exact (hq.2 _ _ h3).elim ha b2
      | some x' =>
        obtain ⟨a1, a2⟩ := pv_some e'
        have := ih (l.map (el x j)) (l'.map (el x' j)) (fun y hy => by
          obtain ⟨r, hr, rfl⟩ := List.mem_map.mp hy
          have hz : q ∣ (el x j r) j := ⟨0, by simp only [el]; grind⟩
          refine (Sp.el_iff hq a1 a2 hz).mp ?_
          refine Sp.trans hq (l := l) h ?_
          exact (Sp.el_iff hq b1 b2 hz).mpr (Sp.mem hq _ hy))
        dsimp only
        omega
theorem rkC_eq {q : Int} (hq : Dom q) {js : List Nat} {l l' : List Row} (h : ∀ x ∈ l, Sp q js l' x) (h' : ∀ x ∈ l', Sp q js l x) : rkC q js l = rkC q js l' := Nat.le_antisymm (rkC_mono hq js l l' h) (rkC_mono hq js l' l h')
/-- one row more: its rank is greater by one, or it was in the span -/
theorem rkC_cons {q : Int} (hq : Dom q) : ∀ (js : List Nat) (l : List Row) (x : Row), ¬ Sp q js l x → rkC q js (x :: l) = rkC q js l + 1 := by
  intro js
  induction js with
  | nil => intro l x h; exact absurd (Sp.zero hq (fun j hj => by cases hj)) h
  | cons j js ih =>
    intro l x h
    cases e : pv q j l with
    | none =>
      have h0 := pv_none e
      by_cases hx : q ∣ x j
      · have e2 : pv q j (x :: l) = none := pv_all (fun r hr => by
          rcases List.mem_cons.mp hr with rfl | hr
          · exact hx
          · exact h0 r hr)
        unfold rkC
        rw [e, e2]
        dsimp only
        refine ih l x (fun hs => h ?_)
        obtain ⟨a, ha, c, hc⟩ := hs
        refine ⟨a, ha, c, fun k hk => ?_⟩
        rcases List.mem_cons.mp hk with rfl | hk
        · exact Int.dvd_sub (Int.dvd_mul_of_dvd_right hx) (lcb_dvd c l k h0)
        · exact hc k hk
      · have e2 : pv q j (x :: l) = some x := by unfold pv; rw [if_neg hx]
        unfold rkC
        rw [e, e2]
        dsimp only
        have : rkC q js ((x :: l).map (el x j)) = rkC q js l := by
          refine rkC_eq hq (fun y hy => ?_) (fun y hy => ?_)
          · obtain ⟨r, hr, rfl⟩ := List.mem_map.mp hy
            rcases List.mem_cons.mp hr with rfl | hr
            · exact Sp.zero hq (fun k _ => ⟨0, by simp only [el]; grind⟩)
            · refine Sp.trans hq (l := [r]) (fun z hz => by rw [List.mem_singleton.mp hz]; exact Sp.mem hq _ hr) ?_
              refine ⟨1, hq.1, fun _ => x j, fun k _ => ?_⟩
              obtain ⟨u, hu⟩ := h0 r hr
              simp only [lcb, el]
              exact ⟨-u * x k, by rw [hu]; grind⟩
          · refine (Sp.el_iff hq (l := x :: l) List.mem_cons_self hx (h0 y hy)).mp ?_
            exact Sp.mem hq _ (List.mem_cons_of_mem _ hy)
        omega
    | some p =>
      obtain ⟨b1, b2⟩ := pv_some e
      have key : rkC q (j :: js) (x :: l) = 1 + rkC q js ((x :: l).map (el p j)) := by
        cases e2 : pv q j (x :: l) with
        | none => exact absurd (pv_none e2 p (List.mem_cons_of_mem _ b1)) b2
        | some p2 =>
          obtain ⟨a1, a2⟩ := pv_some e2
          rw [rkC_s e2]
          have := rkC_eq hq (js := js) (l := (x :: l).map (el p2 j)) (l' := (x :: l).map (el p j)) (fun y hy => by
            have hz : q ∣ y j := by obtain ⟨r, hr, rfl⟩ := List.mem_map.mp hy; exact ⟨0, by simp only [el]; grind⟩
            exact (Sp.el_iff hq (List.mem_cons_of_mem _ b1) b2 hz).mp ((Sp.el_iff hq a1 a2 hz).mpr (Sp.mem hq _ hy))) (fun y hy => by
            have hz : q ∣ y j := by obtain ⟨r, hr, rfl⟩ := List.mem_map.mp hy; exact ⟨0, by simp only [el]; grind⟩
            exact (Sp.el_iff hq a1 a2 hz).mp ((Sp.el_iff hq (List.mem_cons_of_mem _ b1) b2 hz).mpr (Sp.mem hq _ hy)))
          omega
      rw [key]
      have e3 : rkC q (j :: js) l = 1 + rkC q js (l.map (el p j)) := rkC_s e
      rw [e3, List.map_cons, ih (l.map (el p j)) (el p j x) ?_]
      · omega
      · intro hs
        have hz : q ∣ (el p j x) j := ⟨0, by simp only [el]; grind⟩
        have h1 := (Sp.el_iff hq (js := js) b1 b2 hz).mpr hs
        apply h
        -- p j * x = el + x j * p
        obtain ⟨a, ha, c, hc⟩ := h1
        obtain ⟨a', ha', c', hc'⟩ := Sp.mem hq (j :: js) b1
        refine ⟨a * a' * p j, hq.mul (hq.mul ha ha') b2, fun k => a' * c k + (a * x j) * c' k, fun k hk => ?_⟩
        obtain ⟨u, hu⟩ := hc k hk
        obtain ⟨w, hw⟩ := hc' k hk
        rw [lcb_lin]
        simp only [el] at hu
        exact ⟨a' * u + a * x j * w, by grind⟩
