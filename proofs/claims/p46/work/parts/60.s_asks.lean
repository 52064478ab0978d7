/-! ===== the first holders ===== -/
theorem bc_pl : ∀ s : Nat, s < 128 → ∀ k : Nat, k < 7 → s < 2 ^ k → bc ((s : Int) + 2 ^ k) = bc (s : Int) + 1 := by decide +kernel
theorem hs_pl : ∀ s : Nat, s < 128 → ∀ k : Nat, k < 7 → ∀ j : Nat, j < 7 → ¬ s < 2 ^ k ∨ ¬ hs ((s : Int) + 2 ^ k) ((j : Int) + 1) ∨ j = k ∨ hs (s : Int) ((j : Int) + 1) := by decide +kernel
theorem p2_7 {k : Nat} (hk : k ≤ 7) : (2 : Int) ^ k ≤ 128 := by
  have h : (2 : Nat) ^ k ≤ 2 ^ 7 := Nat.pow_le_pow_right (by omega) hk
  have h2 : ((2 ^ k : Nat) : Int) ≤ ((2 ^ 7 : Nat) : Int) := by omega
  rw [Int.natCast_pow] at h2
  exact h2
theorem bc_add {s : Int} {k : Nat} (h0 : 0 ≤ s) (hk : k < 7) (h : s < 2 ^ k) : bc (s + 2 ^ k) = bc s + 1 := by
  have h7 := p2_7 (k := k) (by omega)
  obtain ⟨n, rfl⟩ : ∃ n : Nat, s = (n : Int) := ⟨s.toNat, by omega⟩
  exact bc_pl n (by omega) k hk (by exact_mod_cast h)
theorem hs_add {s : Int} {k j : Nat} (h0 : 0 ≤ s) (hk : k < 7) (h : s < 2 ^ k) (hj : j < 7) (g : hs (s + 2 ^ k) ((j : Int) + 1)) : j = k ∨ hs s ((j : Int) + 1) := by
  have h7 := p2_7 (k := k) (by omega)
  obtain ⟨n, rfl⟩ : ∃ n : Nat, s = (n : Int) := ⟨s.toNat, by omega⟩
  rcases hs_pl n (by omega) k hk j hj with q | q | q
  · exact absurd (by exact_mod_cast h) q
  · exact absurd g q
  · exact q
theorem foK_su (dg st : Int) (k : Nat) : foK dg st (k + 1) = if hs st ((k : Int) + 1) ∧ bc (foK dg st k) ≤ dg then foK dg st k + 2 ^ k else foK dg st k := rfl
theorem foK_rg9 (dg st : Int) : ∀ k : Nat, 0 ≤ foK dg st k ∧ foK dg st k < 2 ^ k := by
  intro k
  induction k with
  | zero => exact ⟨Int.le_refl _, by show (0 : Int) < 1; decide⟩
  | succ k ih =>
    rw [foK_su, Int.pow_succ]
    split <;> omega
theorem foK_bc {dg : Int} (h0 : -1 ≤ dg) (st : Int) : ∀ k : Nat, k ≤ 7 → bc (foK dg st k) ≤ dg + 1 := by
  intro k
  induction k with
  | zero => intro _; show (0 : Int) ≤ dg + 1; omega
  | succ k ih =>
    intro hk
    have r := foK_rg9 dg st k
    rw [foK_su]
    split
    · rename_i c
      rw [bc_add r.1 (by omega) r.2]
      have := c.2
      omega
    · exact ih (by omega)
theorem foK_in (dg st : Int) {j : Nat} (hj : j < 7) : ∀ k : Nat, k ≤ 7 → hs (foK dg st k) ((j : Int) + 1) → hs st ((j : Int) + 1) := by
  intro k
  induction k with
  | zero => intro _ h; exact absurd h (hs_zero _)
  | succ k ih =>
    intro hk h
    have r := foK_rg9 dg st k
    rw [foK_su] at h
    by_cases c : hs st ((k : Int) + 1) ∧ bc (foK dg st k) ≤ dg
    · rw [if_pos c] at h
      rcases hs_add r.1 (by omega) r.2 hj h with q | q
      · rw [q]; exact c.1
      · exact ih (by omega) q
    · rw [if_neg c] at h; exact ih (by omega) h
theorem fsK_fo (A : Int → Int) (dg : Int) : ∀ k : Nat, k ≤ 7 → fsK A dg k = (foK dg (st7 A) k, dg + 1 - bc (foK dg (st7 A) k)) := by
  intro k
  induction k with
  | zero => intro _; show ((0 : Int), dg + 1) = ((0 : Int), dg + 1 - bc 0); rw [show bc 0 = 0 by rfl, Int.sub_zero]
  | succ k ih =>
    intro hk
    have r := foK_rg9 dg (st7 A) k
    have e : fsK A dg (k + 1) = if 0 < (fsK A dg k).2 ∧ A ((k : Int) + 1) ≠ -1 then ((fsK A dg k).1 + 2 ^ k, (fsK A dg k).2 - 1) else fsK A dg k := rfl
    have i := st7_hs A (j := k) (by omega)
    rw [e, ih (by omega), foK_su]
    by_cases c : hs (st7 A) ((k : Int) + 1) ∧ bc (foK dg (st7 A) k) ≤ dg
    · rw [if_pos c, if_pos ⟨by show 0 < dg + 1 - bc (foK dg (st7 A) k); have := c.2; omega, i.mp c.1⟩, bc_add r.1 (by omega) r.2]
      show (foK dg (st7 A) k + 2 ^ k, dg + 1 - bc (foK dg (st7 A) k) - 1) = _
      congr 1
      omega
    · rw [if_neg c, if_neg (fun q => c ⟨i.mpr q.2, by have := q.1; have q2 : 0 < dg + 1 - bc (foK dg (st7 A) k) := this; omega⟩)]
theorem foK_top {dg st : Int} {M : Nat} (h : ∀ j : Nat, M ≤ j → j < 7 → ¬ hs st ((j : Int) + 1)) : ∀ k : Nat, M ≤ k → k ≤ 7 → foK dg st k = foK dg st M := by
  intro k
  induction k with
  | zero => intro h1 _; rw [show M = 0 by omega]
  | succ k ih =>
    intro h1 h2
    by_cases e : M = k + 1
    · rw [e]
    · rw [foK_su, if_neg (fun q => h k (by omega) (by omega) q.1)]
      exact ih (by omega) (by omega)
theorem GD.fo {wh : Nat} (hwh : wh < 7) {s : SD} {r : RD} (g : GD wh s r) (hf : r.dg ≠ -1) : fs7 s.A s.dg = foV wh r := by
  have hM := pr_M hwh
  have d := g.e.2.2 hf
  have d2 := g.2.1
  have t := foK_top (dg := r.dg) (st := st7 r.A) (M := (ho wh).toNat) (fun j h1 h2 q => (st7_hs r.A h2).mp q (g.1.2.2.1 _ (by omega))) 7 hM.1 (by omega)
  have b := foK_bc (dg := r.dg) (by omega) (st7 r.A) 7 (by omega)
  unfold fs7 foV
  rw [fsK_fo _ _ 7 (by omega), g.1.2.1, ← d, ← t]
  show (if r.dg + 1 - bc (foK r.dg (st7 r.A) 7) = 0 then foK r.dg (st7 r.A) 7 else 0) = _
  by_cases c : r.dg < bc (foK r.dg (st7 r.A) 7)
  · rw [if_pos c, if_pos (by omega)]
  · rw [if_neg c, if_neg (by omega)]
theorem fs7_em {A : Int → Int} {dg : Int} (h : ∀ j, A j = -1) : fs7 A dg = 0 := by
  have e : ∀ k : Nat, fsK A dg k = (0, dg + 1) := by
    intro k
    induction k with
    | zero => rfl
    | succ k ih =>
      have e : fsK A dg (k + 1) = if 0 < (fsK A dg k).2 ∧ A ((k : Int) + 1) ≠ -1 then ((fsK A dg k).1 + 2 ^ k, (fsK A dg k).2 - 1) else fsK A dg k := rfl
      rw [e, if_neg (fun q => q.2 (h _)), ih]
  unfold fs7
  rw [e]
  split <;> rfl
theorem GD.od {wh : Nat} (hwh : wh < 7) {s : SD} {r : RD} (g : GD wh s r) (c : Int) : odV wh s c = mdV wh r c := by
  have ge := g.e
  have z := g.sc.1
  have z2 := g.2.2.2.1
  have gd := g.2.1
  unfold odV mdV
  by_cases c0 : c = 0
  · rw [if_pos c0, if_pos c0]
    by_cases f : r.dg = -1
    · rw [if_pos (ge.1.mpr f), f]
    · rw [if_neg (fun q => f (ge.1.mp q)), ge.2.2 f]
  · rw [if_neg c0, if_neg c0]
    by_cases c1 : c = 1
    · rw [if_pos c1, if_pos c1, g.1.2.1]
    · rw [if_neg c1, if_neg c1]
      by_cases c2 : c = 2
      · rw [if_pos c2, if_pos c2, g.1.2.1]
      · rw [if_neg c2, if_neg c2]
        by_cases c3 : c = 3
        · rw [if_pos c3, if_pos c3]
          rcases z2 with q | q
          · rw [q, b01_f (fun w => by have := z.mp w; omega)]
          · rw [q, b01_t (z.mpr q)]
        · rw [if_neg c3, if_neg c3]
          by_cases c4 : c = 4
          · rw [if_pos c4, if_pos c4]
            refine b01_cg ?_
            by_cases f : r.dg = -1
            · exact ⟨fun q => absurd (ge.1.mpr f) (by have := q.1; omega), fun q => absurd f q.1⟩
            · rw [g.1.2.1] at *
              have i := g.inl hwh f (st7 r.A)
              rw [g.1.2.1] at i
              exact ⟨fun q => ⟨f, i.mp q⟩, fun q => i.mpr q.2⟩
          · rw [if_neg c4, if_neg c4]
            by_cases f : r.dg = -1
            · rw [if_pos (Or.inl f), if_pos (fs7_em (fun j => by rw [g.1.2.1]; exact g.2.2.2.2.2 (ge.1.mpr f) j))]
            · rw [g.fo hwh f]
              by_cases e : foV wh r = 0
              · rw [if_pos e, if_pos (Or.inr e)]
              · rw [if_neg e, if_neg (fun q => q.elim f e), g.1.2.1, tl_at hwh]
theorem y_ofDeal {wh : Nat} {D : Nat → SD} {R : Nat → RD} (G : GG wh D R) {i c : Int} (hc : (0 ≤ i ∧ i < 6) ∧ (0 ≤ c ∧ c ≤ 5)) : odV wh (D i.toNat) c = mdV wh (R i.toNat) c := (G.2.2 i.toNat (by omega)).od G.1 c
/-! ===== most ===== -/
abbrev bl (b u v : Int) : Prop := if b = 0 then u < v else v < u
theorem bl_ir (b u : Int) : ¬ bl b u u := by unfold bl; split <;> omega
theorem bl_as {b u v : Int} (h : bl b u v) : ¬ bl b v u := by unfold bl at *; split at h <;> rename_i c <;> (first | rw [if_pos c] | rw [if_neg c]) <;> omega
theorem bl_tr {b u v w : Int} (h : bl b u v) (g : ¬ bl b u w) : bl b w v := by unfold bl at *; by_cases c : b = 0 <;> simp only [c, if_true, if_false] at * <;> omega
theorem bl_t2 {b u v w : Int} (h : ¬ bl b u v) (g : ¬ bl b v w) : ¬ bl b u w := by unfold bl at *; by_cases c : b = 0 <;> simp only [c, if_true, if_false] at * <;> omega
/-- of the holders above lo, to hi: the one who is meant -/
def bst (b : Int) (A : Int → Int) (lo hi f : Int) : Prop := (f = 0 ∧ ∀ i, lo < i → i ≤ hi → A i = -1) ∨ ((lo < f ∧ f ≤ hi ∧ A f ≠ -1) ∧ ∀ i, lo < i → i ≤ hi → A i ≠ -1 → ¬ bl b (A f) (A i) ∧ (i < f → bl b (A i) (A f)))
theorem bst_un {b : Int} {A : Int → Int} {hi f g : Int} (h1 : bst b A 0 hi f) (h2 : bst b A 0 hi g) : f = g := by
  rcases h1 with ⟨rfl, h1⟩ | ⟨a1, h1⟩
  · rcases h2 with ⟨rfl, -⟩ | ⟨a2, -⟩
    · rfl
    · exact absurd (h1 g a2.1 a2.2.1) a2.2.2
  · rcases h2 with ⟨rfl, h2⟩ | ⟨a2, h2⟩
    · exact absurd (h2 f a1.1 a1.2.1) a1.2.2
    · rcases Int.lt_trichotomy f g with q | q | q
      · exact absurd ((h2 f a1.1 a1.2.1 a1.2.2).2 q) (h1 g a2.1 a2.2.1 a2.2.2).1
      · exact q
      · exact absurd ((h1 g a2.1 a2.2.1 a2.2.2).2 q) (h2 f a1.1 a1.2.1 a1.2.2).1
theorem msK_bst (b : Int) (A : Int → Int) : ∀ k : Nat, bst b A 0 (k : Int) (msK b A k).1 ∧ ((msK b A k).1 ≠ 0 → (msK b A k).2 = A (msK b A k).1) := by
  intro k
  induction k with
  | zero => exact ⟨Or.inl ⟨rfl, fun i h1 h2 => by have : ((0 : Nat) : Int) = 0 := rfl; omega⟩, fun q => absurd rfl q⟩
  | succ k ih =>
    obtain ⟨ih, iv⟩ := ih
    have e : msK b A (k + 1) = if A ((k : Int) + 1) ≠ -1 ∧ ((msK b A k).1 = 0 ∨ bl b (msK b A k).2 (A ((k : Int) + 1))) then ((k : Int) + 1, A ((k : Int) + 1)) else msK b A k := rfl
    rw [e]
    generalize msK b A k = m at ih iv ⊢
    have cast : ((k + 1 : Nat) : Int) = (k : Int) + 1 := rfl
    rw [cast]
    by_cases c : A ((k : Int) + 1) ≠ -1 ∧ (m.1 = 0 ∨ bl b m.2 (A ((k : Int) + 1)))
    · rw [if_pos c]
      refine ⟨Or.inr ⟨⟨by show (0 : Int) < (k : Int) + 1; omega, by show (k : Int) + 1 ≤ (k : Int) + 1; omega, c.1⟩, fun i h1 h2 h3 => ?_⟩, fun _ => rfl⟩
      show ¬ bl b (A ((k : Int) + 1)) (A i) ∧ (i < (k : Int) + 1 → bl b (A i) (A ((k : Int) + 1)))
      by_cases ei : i = (k : Int) + 1
      · rw [ei]; exact ⟨bl_ir _ _, fun q => by omega⟩
      · rcases ih with ⟨-, ih⟩ | ⟨a, ih⟩
        · exact absurd (ih i h1 (by omega)) h3
        · have hv := iv (by omega)
          have hb := c.2.resolve_left (by omega)
          rw [hv] at hb
          have := ih i h1 (by omega) h3
          have t := bl_tr hb this.1
          exact ⟨bl_as t, fun _ => t⟩
    · rw [if_neg c]
      refine ⟨?_, iv⟩
      rcases ih with ⟨z, ih⟩ | ⟨a, ih⟩
      · refine Or.inl ⟨z, fun i h1 h2 => ?_⟩
        by_cases ei : i = (k : Int) + 1
        · rw [ei]
          exact Classical.byContradiction (fun q => c ⟨q, Or.inl z⟩)
        · exact ih i h1 (by omega)
      · refine Or.inr ⟨⟨a.1, by omega, a.2.2⟩, fun i h1 h2 h3 => ?_⟩
        by_cases ei : i = (k : Int) + 1
        · rw [ei] at h3 ⊢
          have hv := iv (by omega)
          exact ⟨fun q => c ⟨h3, Or.inr (by rw [hv]; exact q)⟩, fun q => by omega⟩
        · exact ih i h1 (by omega) h3
theorem bl_le (b u v : Int) : (if b = 0 then u ≤ v else v ≤ u) ↔ ¬ bl b v u := by unfold bl; split <;> omega
theorem moK_bst (b : Int) (A : Int → Int) (M : Nat) : ∀ j : Nat, j ≤ M → bst b A ((M : Int) - (j : Int)) (M : Int) (moK b A M j) := by
  intro j
  induction j with
  | zero => intro _; exact Or.inl ⟨rfl, fun i h1 h2 => by have : ((0 : Nat) : Int) = 0 := rfl; omega⟩
  | succ j ih =>
    intro hj
    have ih := ih (by omega)
    have e : moK b A M (j + 1) = if A ((M : Int) - (j : Int)) ≠ -1 ∧ (moK b A M j = 0 ∨ (if b = 0 then A (moK b A M j) ≤ A ((M : Int) - (j : Int)) else A ((M : Int) - (j : Int)) ≤ A (moK b A M j))) then (M : Int) - (j : Int) else moK b A M j := rfl
    rw [e]
    generalize moK b A M j = f at ih ⊢
    have cast : (M : Int) - ((j + 1 : Nat) : Int) = (M : Int) - (j : Int) - 1 := by omega
    rw [cast]
    generalize hh : (M : Int) - (j : Int) = h at ih ⊢
    have ib := bl_le b (A f) (A h)
    by_cases c : A h ≠ -1 ∧ (f = 0 ∨ (if b = 0 then A f ≤ A h else A h ≤ A f))
    · rw [if_pos c]
      refine Or.inr ⟨⟨by omega, by omega, c.1⟩, fun i h1 h2 h3 => ⟨?_, fun q => by omega⟩⟩
      by_cases ei : i = h
      · rw [ei]; exact bl_ir _ _
      · rcases ih with ⟨-, ih⟩ | ⟨a, ih⟩
        · exact absurd (ih i (by omega) h2) h3
        · have hb := ib.mp (c.2.resolve_left (by omega))
          exact bl_t2 hb (ih i (by omega) h2 h3).1
    · rw [if_neg c]
      rcases ih with ⟨z, ih⟩ | ⟨a, ih⟩
      · refine Or.inl ⟨z, fun i h1 h2 => ?_⟩
        by_cases ei : i = h
        · rw [ei]
          exact Classical.byContradiction (fun q => c ⟨q, Or.inl z⟩)
        · exact ih i (by omega) h2
      · refine Or.inr ⟨⟨by omega, a.2.1, a.2.2⟩, fun i h1 h2 h3 => ?_⟩
        by_cases ei : i = h
        · rw [ei] at h3 ⊢
          have nb : ¬ ¬ bl b (A h) (A f) := fun q => c ⟨h3, Or.inr (ib.mpr q)⟩
          have yb := Classical.not_not.mp nb
          exact ⟨bl_as yb, fun _ => yb⟩
        · exact ih i (by omega) h2 h3
theorem y_most {wh : Nat} {D : Nat → SD} {R : Nat → RD} (G : GG wh D R) {i b : Int} (hc : 0 ≤ i ∧ i < 6) : (if (D i.toNat).fl = 0 then -9 else (msK b (D i.toNat).A (ho wh).toNat).1) = (if (R i.toNat).dg = -1 then -9 else moK b (R i.toNat).A (ho wh).toNat (ho wh).toNat) := by
  have g := G.2.2 i.toNat (by omega)
  by_cases f : (R i.toNat).dg = -1
  · rw [if_pos f, if_pos (g.e.1.mpr f)]
  · rw [if_neg f, if_neg (fun q => f (g.e.1.mp q)), g.1.2.1]
    have h2 := moK_bst b (R i.toNat).A (ho wh).toNat (ho wh).toNat (Nat.le_refl _)
    rw [Int.sub_self] at h2
    exact bst_un (msK_bst b (R i.toNat).A (ho wh).toNat).1 h2
/-! ===== isSame ===== -/
theorem smK_sa {s1 s2 : SD} {r1 r2 : RD} (h : (s1.dg = s2.dg) ↔ (r1.dg = r2.dg)) (h1 : s1.A = r1.A) (h2 : s2.A = r2.A) : ∀ k : Nat, smK s1 s2 k = saB r1 r2 k := by
  intro k
  induction k with
  | zero =>
    show decide (s1.dg = s2.dg) = decide (r1.dg = r2.dg)
    by_cases q : r1.dg = r2.dg
    · rw [decide_eq_true q, decide_eq_true (h.mpr q)]
    · rw [decide_eq_false q, decide_eq_false (fun z => q (h.mp z))]
  | succ k ih =>
    show (smK s1 s2 k && decide (s1.A ((k : Int) + 1) = s2.A ((k : Int) + 1))) = (saB r1 r2 k && decide (r1.A ((k : Int) + 1) = r2.A ((k : Int) + 1)))
    rw [ih, h1, h2]
theorem saB_dg {r1 r2 : RD} : ∀ k : Nat, saB r1 r2 k = true → r1.dg = r2.dg := by
  intro k
  induction k with
  | zero => intro h; exact of_decide_eq_true h
  | succ k ih =>
    intro h
    have e : (saB r1 r2 k && decide (r1.A ((k : Int) + 1) = r2.A ((k : Int) + 1))) = true := h
    rw [Bool.and_eq_true] at e
    exact ih e.1
theorem saB_em {r1 r2 : RD} (h1 : r1.dg = r2.dg) (h2 : ∀ j, r1.A j = r2.A j) : ∀ k : Nat, saB r1 r2 k = true := by
  intro k
  induction k with
  | zero => exact decide_eq_true h1
  | succ k ih =>
    show (saB r1 r2 k && decide (r1.A ((k : Int) + 1) = r2.A ((k : Int) + 1))) = true
    rw [ih, decide_eq_true (h2 _)]; rfl
theorem y_same {wh : Nat} {D : Nat → SD} {R : Nat → RD} (G : GG wh D R) {i j : Int} (hc : (0 ≤ i ∧ i < 6) ∧ (0 ≤ j ∧ j < 6)) : smV wh (D i.toNat) (D j.toNat) = b01 (saB (R i.toNat) (R j.toNat) (ho wh).toNat = true) := by
  have g := G.2.2 i.toNat (by omega)
  have g2 := G.2.2 j.toNat (by omega)
  have e1 := g.e
  have e2 := g2.e
  unfold smV
  by_cases f : (D i.toNat).fl = 0 ∨ (D j.toNat).fl = 0
  · rw [if_pos f]
    refine b01_cg ⟨fun q => ?_, fun q => ?_⟩
    · have d1 := e1.1.mp q.1
      have d2 := e2.1.mp q.2
      exact saB_em (by rw [d1, d2]) (fun k => by rw [g.2.2.2.2.2 q.1 k, g2.2.2.2.2.2 q.2 k]) _
    · have := saB_dg _ q
      omega
  · rw [if_neg f, smK_sa (r1 := R i.toNat) (r2 := R j.toNat) (by omega) g.1.2.1 g2.1.2.1]
/-! ===== house, isSound, digest ===== -/
theorem fd_eq {wh : Nat} {D : Nat → SD} {R : Nat → RD} (G : GG wh D R) : ∀ k : Nat, k ≤ 6 → fdK D k = fdR R k := by
  intro k
  induction k with
  | zero => intro _; rfl
  | succ k ih =>
    intro hk
    have e := (G.2.2 k (by omega)).e.1
    show (if (D k).fl = 0 then fdK D k else fdK D k + 1) = fdR R k + (if (R k).dg = -1 then 0 else 1)
    rw [ih (by omega)]
    by_cases f : (R k).dg = -1
    · rw [if_pos f, if_pos (e.mpr f), Int.add_zero]
    · rw [if_neg f, if_neg (fun q => f (e.mp q))]
theorem y_house {wh : Nat} {D : Nat → SD} {R : Nat → RD} (G : GG wh D R) {kn c : Int} (hc : 0 ≤ c ∧ c ≤ 6) : hsV wh kn D c = hoR wh kn R c := by
  unfold hsV hoR
  rw [fd_eq G 6 (by omega)]
  rcases (show c = 0 ∨ c = 1 ∨ c = 2 ∨ c = 3 ∨ c = 4 ∨ c = 5 ∨ c = 6 by omega) with rfl | rfl | rfl | rfl | rfl | rfl | rfl <;> rfl
theorem daB_all (wh : Nat) (sc : Int) (A B : Int → Int) (set M : Int) : ∀ r : Nat, daB wh sc A B set M r = true ↔ ∀ j : Nat, j < r → hs set (M - (j : Int)) → fit wh sc A B (M - (j : Int)) := by
  intro r
  induction r with
  | zero => exact ⟨fun _ j hj => absurd hj (Nat.not_lt_zero _), fun _ => rfl⟩
  | succ k ih =>
    have e : daB wh sc A B set M (k + 1) = ((!decide (hs set (M - (k : Int))) || decide (fit wh sc A B (M - (k : Int)))) && daB wh sc A B set M k) := rfl
    rw [e, Bool.and_eq_true, ih, Bool.or_eq_true, Bool.not_eq_true', decide_eq_false_iff_not, decide_eq_true_eq]
    constructor
    · rintro ⟨h2, h1⟩ j hj hs1
      by_cases q : j = k
      · rw [q] at hs1 ⊢
        rcases h2 with h2 | h2
        · exact absurd hs1 h2
        · exact h2
      · exact h1 j (by omega) hs1
    · intro h
      refine ⟨?_, fun j hj => h j (by omega)⟩
      by_cases q : hs set (M - (k : Int))
      · exact Or.inr (h k (by omega) q)
      · exact Or.inl q
theorem feB_all (wh : Nat) (r : RD) (set : Int) : ∀ k : Nat, feB wh r set k = true ↔ ∀ j : Nat, j < k → hs set ((j : Int) + 1) → fiV wh r ((j : Int) + 1) := by
  intro k
  induction k with
  | zero => exact ⟨fun _ j hj => absurd hj (Nat.not_lt_zero _), fun _ => rfl⟩
  | succ k ih =>
    have e : feB wh r set (k + 1) = (feB wh r set k && (!decide (hs set ((k : Int) + 1)) || decide (fiV wh r ((k : Int) + 1)))) := rfl
    rw [e, Bool.and_eq_true, ih, Bool.or_eq_true, Bool.not_eq_true', decide_eq_false_iff_not, decide_eq_true_eq]
    constructor
    · rintro ⟨h1, h2⟩ j hj hs1
      by_cases q : j = k
      · rw [q] at hs1 ⊢
        rcases h2 with h2 | h2
        · exact absurd hs1 h2
        · exact h2
      · exact h1 j (by omega) hs1
    · intro h
      refine ⟨fun j hj => h j (by omega), ?_⟩
      by_cases q : hs set ((k : Int) + 1)
      · exact Or.inr (h k (by omega) q)
      · exact Or.inl q
theorem GD.dk {wh : Nat} (hwh : wh < 7) {s : SD} {r : RD} (g : GD wh s r) (hp1 : r.hp = 1) : dok wh s ↔ fsV wh r := by
  have hM := pr_M hwh
  have z := g.sc.2 hp1
  have f := z.2
  have fo := g.fo hwh f
  have st := g.st (c := 0) (Int.le_refl _)
  rw [if_pos ⟨Int.le_refl _, by have := g.2.1; omega⟩] at st
  have key : (daB wh s.sc s.A s.B (foV wh r) (ho wh) (ho wh).toNat = true) ↔ (feB wh r (foV wh r) (ho wh).toNat = true) := by
    have sub : ∀ j : Nat, j < (ho wh).toNat → hs (foV wh r) ((j : Int) + 1) → r.A ((j : Int) + 1) ≠ -1 := by
      intro j hj q
      unfold foV at q
      by_cases c : r.dg < bc (foK r.dg (st7 r.A) (ho wh).toNat)
      · rw [if_pos c] at q
        exact (st7_hs r.A (by omega)).mp (foK_in r.dg (st7 r.A) (by omega) _ hM.1 q)
      · rw [if_neg c] at q; exact absurd q (hs_zero _)
    rw [daB_all, feB_all]
    constructor
    · intro h j hj q
      have q2 := h ((ho wh).toNat - 1 - j) (by omega)
      rw [show ho wh - (((ho wh).toNat - 1 - j : Nat) : Int) = (j : Int) + 1 by omega] at q2
      exact (g.ft hwh hp1 (by omega) (sub j hj q)).mp (q2 q)
    · intro h j hj q
      have e : ho wh - (j : Int) = (((ho wh).toNat - 1 - j : Nat) : Int) + 1 := by omega
      rw [e] at q ⊢
      exact (g.ft hwh hp1 (by omega) (sub _ (by omega) q)).mpr (h _ (by omega) q)
  show (fs7 s.A s.dg = 0 ∨ ¬ (daB wh s.sc s.A s.B (fs7 s.A s.dg) (ho wh) (ho wh).toNat = true) ∨ sl wh (tl wh (fs7 s.A s.dg) s.A 0) = s.B 0) ↔ (foV wh r = 0 ∨ ¬ (feB wh r (foV wh r) (ho wh).toNat = true) ∨ sl wh (atV wh (foV wh r) r.A 0) = stV wh r 0)
  rw [fo, key, tl_at hwh, g.1.2.1, st]
theorem fss_fw {wh : Nat} {D : Nat → SD} {R : Nat → RD} (G : GG wh D R) : ∀ k : Nat, k ≤ 6 → fss wh D k = fwK wh R k := by
  intro k
  induction k with
  | zero => intro _; rfl
  | succ k ih =>
    intro hk
    have g := G.2.2 (5 - k) (by omega)
    show (if 0 < (D (5 - k)).sc then decide (dok wh (D (5 - k))) else fss wh D k) = (if (R (5 - k)).hp = 1 then decide (fsV wh (R (5 - k))) else fwK wh R k)
    by_cases c : (R (5 - k)).hp = 1
    · rw [if_pos c, if_pos (g.sc.1.mpr c)]
      have i := g.dk G.1 c
      by_cases q : fsV wh (R (5 - k))
      · rw [decide_eq_true q, decide_eq_true (i.mpr q)]
      · rw [decide_eq_false q, decide_eq_false (fun w => q (i.mp w))]
    · rw [if_neg c, if_neg (fun w => c (g.sc.1.mp w)), ih (by omega)]
theorem y_isSound {wh : Nat} {D : Nat → SD} {R : Nat → RD} (G : GG wh D R) : snV wh D = b01 (whV wh R) := by
  unfold snV
  refine b01_cg ?_
  show (tl wh (fl wh) (fun _ => 1) 0 = 1 ∧ fss wh D 6 = true) ↔ (atV wh (fl wh) (fun _ => 1) 0 = 1 ∧ fwK wh R 6 = true)
  rw [tl_at G.1, fss_fw G 6 (by omega)]
theorem itF_cg {f g : Nat → Int} {b c : Int} (hb : b = c) : ∀ k : Nat, (∀ j : Nat, j < k → f j = g j) → itF f b k = itF g c k := by
  intro k
  induction k with
  | zero => intro _; exact hb
  | succ k ih =>
    intro h
    show itF f b k * 31 + f k = itF g c k * 31 + g k
    rw [ih (fun j hj => h j (by omega)), h k (by omega)]
theorem dgI_mg {wh : Nat} {kn : Int} {D : Nat → SD} {R : Nat → RD} (G : GG wh D R) : ∀ k : Nat, k ≤ 6 → dgI wh kn D k = mgI wh kn R k := by
  intro k
  induction k with
  | zero => intro _; exact itF_cg rfl 7 (fun j hj => y_house G ⟨by omega, by omega⟩)
  | succ k ih =>
    intro hk
    have g := G.2.2 k (by omega)
    show dg3 wh (D k) (dgI wh kn D k) 4 = mg3 wh (R k) (mgI wh kn R k) 4
    rw [ih (by omega)]
    refine itF_cg (itF_cg (itF_cg rfl 4 (fun j _ => g.od G.1 _)) _ (fun j _ => ?_)) 4 (fun j _ => ?_)
    · show (D k).A ((j : Int) + 1) = (R k).A ((j : Int) + 1)
      rw [g.1.2.1]
    · show (if (j : Int) < (D k).sc then (D k).B (j : Int) else -1) = stV wh (R k) (j : Int)
      rw [← g.st (c := (j : Int)) (by omega)]
      by_cases c : (j : Int) < (D k).sc
      · rw [if_pos c, if_pos ⟨by omega, c⟩]
      · rw [if_neg c, if_neg (fun q => c q.2)]
theorem y_digest {wh : Nat} {kn : Int} {D : Nat → SD} {R : Nat → RD} (G : GG wh D R) : dgV wh kn D = mgV wh kn R := by
  unfold dgV mgV
  rw [dgI_mg G 6 (by omega), y_isSound G]
theorem y_isS {wh : Nat} {D : Nat → SD} {R : Nat → RD} (G : GG wh D R) {i j : Int} (hc : (0 ≤ i ∧ i < 6) ∧ (0 ≤ j ∧ j < 6)) : (if eI (smV wh (D i.toNat) (D j.toNat)) = eI 0 then (0 : Int) else 1) = (eI (b01 (saB (R i.toNat) (R j.toNat) (ho wh).toNat = true))).toInt := by
  rw [y_same G hc]
  by_cases q : saB (R i.toNat) (R j.toNat) (ho wh).toNat = true
  · rw [b01_t q]; rfl
  · rw [b01_f q]; rfl
