/-! the reference: its state -/
abbrev RD : Type := Int × Int × (Int → Int) × (Int → Int)
abbrev RD.dg (r : RD) : Int := r.1
abbrev RD.hp (r : RD) : Int := r.2.1
abbrev RD.A (r : RD) : Int → Int := r.2.2.1
abbrev RD.E (r : RD) : Int → Int := r.2.2.2
def RW (w : e_W) (y : Nat) (o : Option Nat) (Z : Nat) (p lo : Int) (A : Int → Int) : Prop := ∃ (a : Nat) (f : Int → Int), o = some a ∧ y + 3 < a ∧ w a = some (e_ia Z f) ∧ (∀ j : Int, 0 ≤ j → j < Z → -1 ≤ f j ∧ f j < p) ∧ ∀ j : Int, lo ≤ j → j < Z → f j = A j
def MD (w : e_W) (y wh : Nat) (o1 o2 : Option Nat) (r : RD) : Prop := (r.dg = -1 ∧ o1 = none ∧ o2 = none ∧ r.hp = 0) ∨ ((0 ≤ r.dg ∧ r.dg ≤ 6) ∧ RW w y o1 ((ho wh).toNat + 1) (pr wh) 1 r.A ∧ ((r.hp = 0 ∧ o2 = none) ∨ (r.hp = 1 ∧ RW w y o2 (r.dg.toNat + 1) (pr wh) 0 r.E)))
def RV (wh : Nat) (r : RD) : Prop := (∀ j, 1 ≤ j → j < 8 → r.A j = -1 ∨ (0 ≤ r.A j ∧ r.A j < pr wh ∧ j ≤ ho wh)) ∧ (r.hp = 1 → ∀ k, 0 ≤ k → k ≤ r.dg → 0 ≤ r.E k ∧ r.E k < pr wh) ∧ (r.dg = -1 → ∀ j, 1 ≤ j → j < 8 → r.A j = -1)
def MW (w : e_W) (y wh : Nat) (kn t : Int) (R : Nat → RD) : Prop := w y = some (MO y t wh kn) ∧ wh < 7 ∧ (∃ G, w (y + 1) = some (e_ia 6 G) ∧ ∀ j : Nat, j < 6 → G (j : Int) = (R j).dg) ∧ (∃ S P, w (y + 2) = some (e_ra 6 S) ∧ w (y + 3) = some (e_ra 6 P) ∧ ∀ j : Nat, j < 6 → MD w y wh (S (j : Int)) (P (j : Int)) (R j)) ∧ ∀ j : Nat, j < 6 → RV wh (R j)
def updR (R : Nat → RD) (i : Nat) (r : RD) : Nat → RD := fun j => if j = i then r else R j
def FM (w w' : e_W) (y n : Nat) : Prop := ∀ q, q < n → q < y ∨ y + 4 ≤ q → w' q = w q
theorem RW.to {w w' : e_W} {y Z : Nat} {o : Option Nat} {p lo : Int} {A : Int → Int} (h : RW w y o Z p lo A) (hk : ∀ q e, y + 3 < q → w q = some e → w' q = some e) : RW w' y o Z p lo A := by
  obtain ⟨a, f, h1, h2, h3, h4, h5⟩ := h
  exact ⟨a, f, h1, h2, hk a _ h2 h3, h4, h5⟩
theorem MD.to {w w' : e_W} {y wh : Nat} {o1 o2 : Option Nat} {r : RD} (h : MD w y wh o1 o2 r) (hk : ∀ q e, y + 3 < q → w q = some e → w' q = some e) : MD w' y wh o1 o2 r := by
  rcases h with h | ⟨h1, h2, h3⟩
  · exact Or.inl h
  · exact Or.inr ⟨h1, h2.to hk, h3.imp id (fun h => ⟨h.1, h.2.to hk⟩)⟩
theorem MD.dg {w : e_W} {y wh : Nat} {o1 o2 : Option Nat} {r : RD} (h : MD w y wh o1 o2 r) : -1 ≤ r.dg ∧ r.dg ≤ 6 := by
  rcases h with h | h <;> omega
theorem MD.hp {w : e_W} {y wh : Nat} {o1 o2 : Option Nat} {r : RD} (h : MD w y wh o1 o2 r) : r.hp = 0 ∨ r.hp = 1 := by
  rcases h with h | ⟨_, _, h | h⟩
  · exact Or.inl h.2.2.2
  · exact Or.inl h.1
  · exact Or.inr h.1
theorem MD.row {w : e_W} {y wh : Nat} {o1 o2 : Option Nat} {r : RD} (h : MD w y wh o1 o2 r) (he : ¬ r.dg = -1) : RW w y o1 ((ho wh).toNat + 1) (pr wh) 1 r.A := by
  rcases h with h | h
  · exact absurd h.1 he
  · exact h.2.1
theorem MD.pw {w : e_W} {y wh : Nat} {o1 o2 : Option Nat} {r : RD} (h : MD w y wh o1 o2 r) : (r.hp = 0 ∧ o2 = none) ∨ (r.hp = 1 ∧ RW w y o2 (r.dg.toNat + 1) (pr wh) 0 r.E ∧ 0 ≤ r.dg) := by
  rcases h with h | ⟨h1, _, h | h⟩
  · exact Or.inl ⟨h.2.2.2, h.2.2.1⟩
  · exact Or.inl h
  · exact Or.inr ⟨h.1, h.2, h1.1⟩
theorem MW.kb {w w' : e_W} {y wh n : Nat} {kn t : Int} {R : Nat → RD} (h : MW w y wh kn t R) (hdom : ∀ q e, w q = some e → q < n) (hk : KB w w' n) : MW w' y wh kn t R := by
  obtain ⟨hY, hwh, ⟨G, hG, hGe⟩, ⟨S, P, hS, hP, hMD⟩, hRV⟩ := h
  have hg : ∀ q e, w q = some e → w' q = some e := fun q e he => by rw [hk q (hdom q e he)]; exact he
  exact ⟨hg _ _ hY, hwh, ⟨G, hg _ _ hG, hGe⟩, ⟨S, P, hg _ _ hS, hg _ _ hP, fun j hj => (hMD j hj).to (fun q e _ he => hg q e he)⟩, hRV⟩
theorem MW.th {w : e_W} {y wh : Nat} {kn kn2 t t2 : Int} {R : Nat → RD} (h : MW w y wh kn t R) : MW (e_up w y (MO y t2 wh kn2)) y wh kn2 t2 R := by
  obtain ⟨hY, hwh, ⟨G, hG, hGe⟩, ⟨S, P, hS, hP, hMD⟩, hRV⟩ := h
  exact ⟨e_up_s, hwh, ⟨G, by rw [e_up_n (by omega)]; exact hG, hGe⟩, ⟨S, P, by rw [e_up_n (by omega)]; exact hS, by rw [e_up_n (by omega)]; exact hP, fun j hj => (hMD j hj).to (fun q e h1 he => by rw [e_up_n (by omega)]; exact he)⟩, hRV⟩
theorem e_up_same {w : e_W} {a : Nat} {c : e_C} (h : w a = some c) : e_up w a c = w := by
  funext q
  unfold e_up
  split
  · rename_i e; rw [e, h]
  · rfl
theorem FM.rf {w : e_W} {y n : Nat} : FM w w y n := fun _ _ _ => rfl
theorem FM.kb {w w1 w2 : e_W} {y n n1 : Nat} (h : FM w w1 y n) (hn : n ≤ n1) (h2 : KB w1 w2 n1) : FM w w2 y n := fun q h1 h3 => (h2 q (by omega)).trans (h q h1 h3)
theorem FM.tr {w w1 w2 : e_W} {y n n1 : Nat} (h : FM w w1 y n) (hn : n ≤ n1) (h2 : FM w1 w2 y n1) : FM w w2 y n := fun q h1 h3 => (h2 q (by omega) h3).trans (h q h1 h3)
theorem FM.th {w : e_W} {y n : Nat} {c : e_C} : FM w (e_up w y c) y n := fun q h1 h3 => e_up_n (by omega)
theorem FM.of {w w' : e_W} {y n : Nat} (h : KB w w' n) : FM w w' y n := fun q h1 _ => h q h1
theorem MW.rgA {w : e_W} {y wh : Nat} {kn t : Int} {R : Nat → RD} (h : MW w y wh kn t R) {i : Nat} (hi : i < 6) {j : Int} (h1 : 1 ≤ j) (h2 : j < 8) : -1 ≤ (R i).A j ∧ (R i).A j < pr wh := by
  have hp := pr_rg wh h.2.1
  rcases (h.2.2.2.2 i hi).1 j h1 h2 with q | q <;> omega
/-- the set, from the greatest holder down -/
def sfK (A : Int → Int) (M : Nat) : Nat → Int
  | 0 => 0
  | j + 1 => 2 * sfK A M j + (if A ((M : Int) - (j : Int)) ≠ -1 then 1 else 0)
theorem sfK_st (A : Int → Int) (M : Nat) : ∀ j, j ≤ M → sfK A M j * 2 ^ (M - j) + stK A (M - j) = stK A M := by
  intro j
  induction j with
  | zero => intro _; show 0 * _ + stK A (M - 0) = _; rw [Int.zero_mul, Nat.sub_zero, Int.zero_add]
  | succ j ih =>
    intro hj
    obtain ⟨m, hm⟩ : ∃ m, M - j = m + 1 := ⟨M - j - 1, by omega⟩
    have h1 := ih (by omega)
    rw [hm] at h1
    rw [show M - (j + 1) = m by omega]
    have e1 : stK A (m + 1) = stK A m + (if A ((m : Int) + 1) ≠ -1 then 2 ^ m else 0) := rfl
    have e2 : sfK A M (j + 1) = 2 * sfK A M j + (if A ((M : Int) - (j : Int)) ≠ -1 then 1 else 0) := rfl
    have e3 : (M : Int) - (j : Int) = (m : Int) + 1 := by omega
    rw [e1, Int.pow_succ] at h1
    rw [e2, e3, ← h1, Int.add_mul]
    have e4 : sfK A M j * (2 ^ m * 2) = 2 * sfK A M j * 2 ^ m := by rw [Int.mul_comm (2 ^ m : Int) 2, ← Int.mul_assoc, Int.mul_comm (sfK A M j) 2]
    rw [e4]
    split
    · rw [Int.one_mul]; omega
    · rw [Int.zero_mul]; omega
theorem sfK_rg (A : Int → Int) (M : Nat) (j : Nat) : 0 ≤ sfK A M j ∧ sfK A M j < 2 ^ j := by
  induction j with
  | zero => unfold sfK; decide
  | succ j ih =>
    unfold sfK
    rw [Int.pow_succ]
    split <;> omega
theorem stK_top {A : Int → Int} {M : Nat} (h : ∀ j : Int, M < j → j < 8 → A j = -1) : ∀ k, M ≤ k → k ≤ 7 → stK A k = stK A M := by
  intro k
  induction k with
  | zero => intro h1 _; rw [show M = 0 by omega]
  | succ k ih =>
    intro h1 h2
    by_cases e : M = k + 1
    · rw [e]
    · have e1 : stK A (k + 1) = stK A k + (if A ((k : Int) + 1) ≠ -1 then 2 ^ k else 0) := rfl
      rw [e1, ih (by omega) (by omega), if_neg (fun q => q (h _ (by omega) (by omega))), Int.add_zero]
theorem RV.top {wh : Nat} (hwh : wh < 7) {r : RD} (h : RV wh r) : sfK r.A (ho wh).toNat (ho wh).toNat = st7 r.A := by
  have hho := ho_rg wh hwh
  have h1 := sfK_st r.A (ho wh).toNat (ho wh).toNat (Nat.le_refl _)
  rw [Nat.sub_self] at h1
  have h2 : stK r.A 7 = stK r.A (ho wh).toNat := stK_top (fun j h3 h4 => by
    rcases h.1 j (by omega) h4 with q | q
    · exact q
    · omega) 7 (by omega) (by omega)
  have h3 : stK r.A 0 = 0 := rfl
  rw [h3, Int.pow_zero, Int.mul_one, Int.add_zero] at h1
  rw [h1]
  exact h2.symm
theorem st7_emp {A : Int → Int} (h : ∀ j : Int, 1 ≤ j → j < 8 → A j = -1) : st7 A = 0 := stK_top (M := 0) (fun j h1 h2 => h j (by omega) h2) 7 (by omega) (by omega)
section RV
variable {K : e_K} {p : Program} {l : Launch} {e : Env} {d mc : Nat} {s : State} {m : MethodId} {args : Array Value} {below : List Frame} {meth : Method} {c : Code} {cc : ByteArray} {nL : Nat} {ret : Option FieldType} {own : String} {post : Option Value → e_W → Nat → Prop} {px : String → e_W → Nat → Prop} {pc : Nat} {L : List (Nat × Value)} {st : List Value} {w : e_W} {n k : Nat}
theorem e_aaldr (F : e_F K p l s m args meth c cc nL ret own) {a Z b : Nat} {f : Int → Option Nat} {i : Int} (hw : w a = some (e_ra Z f)) (h0 : 0 ≤ i) (hN : i < Z) (hb : Z < 2147483648) (hv : f i = some b) (hd : decode cc pc = .ok (.aaload, 1)) (kk : e_V K p l e d mc s m args below meth c nL post px (pc + 1) (L) (.ref b :: st) (w) (n) (k)) : e_V K p l e d mc s m args below meth c nL post px (pc) (L) (.int (eI i) :: .ref a :: st) (w) (n) (k) := e_aaldR F hw h0 hN hb hd (by rw [hv]; exact kk)
theorem e_aaldn (F : e_F K p l s m args meth c cc nL ret own) {a Z : Nat} {f : Int → Option Nat} {i : Int} (hw : w a = some (e_ra Z f)) (h0 : 0 ≤ i) (hN : i < Z) (hb : Z < 2147483648) (hv : f i = none) (hd : decode cc pc = .ok (.aaload, 1)) (kk : e_V K p l e d mc s m args below meth c nL post px (pc + 1) (L) (.null :: st) (w) (n) (k)) : e_V K p l e d mc s m args below meth c nL post px (pc) (L) (.int (eI i) :: .ref a :: st) (w) (n) (k) := e_aaldR F hw h0 hN hb hd (by rw [hv]; exact kk)
end RV
set_option maxHeartbeats 4000000 in
set_option maxRecDepth 100000 in
theorem c_X5_refuse {K : e_K} {l : Launch} {w : e_W} {n : Nat} {y wh : Nat} {t kn b9 k9 : Int} (hY : w y = some (MO y t wh kn)) (ht0 : 0 ≤ t) (ht1 : t ≤ 2) (hb : b9 = 0 ∨ b9 = 1) (hk0 : 1 ≤ k9) (hk1 : k9 ≤ 2) : e_Met K l yX5_refuse (Cond.code yX5_refuse cX5_refuse 3 (Option.some .boolean) :: e_TB) (0) (0) [.ref y, .int (eI b9), .int (eI k9)] w n (fun r w' n' => r = some (.int (eI (b01 (0 < (if b9 = 1 ∧ t = 0 then k9 else t))))) ∧ n' = n ∧ w' = e_up w y (MO y (if b9 = 1 ∧ t = 0 then k9 else t) wh kn)) (e_px0) := by
  refine e_ofV rfl (Nat.le_of_ble_eq_true rfl) ?_
  intro P9 E9 S9 M9 A9 B9 T9 C9 F hnm
  refine e_iload_n F dX5_refuse_0 rfl ?_
  refine e_if_eq F 16 dX5_refuse_1 (by decide) (by rcases hb with h | h <;> rw [h] <;> decide) (fun c_1 => ?_) (fun c_1 => ?_)
  · refine e_aload_n F dX5_refuse_16 rfl ?_
    refine e_get (ci := 5) (fi := 0) (q := (RX5, TX5, 6)) F (by first | exact e_up_s | exact hY) rfl (by decide) w_fl_RX5_25 (by rfl) dX5_refuse_17 ?_
    refine e_if_le F 27 dX5_refuse_20 (by decide) (⟨by omega, by omega⟩) (fun c_20 => ?_) (fun c_20 => ?_)
    · refine e_iconst F dX5_refuse_27 ?_
      refine e_zret F rfl (by omega) (by omega) ?_ dX5_refuse_28
      first
      | (exfalso; omega)
      | (refine ⟨?_, rfl, ?_⟩
         · rw [if_pos (show b9 = 1 ∧ t = 0 by omega)]; first | rw [b01_t (by omega)] | rw [b01_f (by omega)]
         · rw [if_pos (show b9 = 1 ∧ t = 0 by omega)]; rfl)
      | (refine ⟨?_, rfl, ?_⟩
         · rw [if_neg (by omega)]; first | rw [b01_t (by omega)] | rw [b01_f (by omega)]
         · rw [if_neg (by omega), e_up_same hY])
    · refine e_iconst F dX5_refuse_23 ?_
      refine e_goto F 28 dX5_refuse_24 (by decide) ?_
      refine e_zret F rfl (by omega) (by omega) ?_ dX5_refuse_28
      first
      | (exfalso; omega)
      | (refine ⟨?_, rfl, ?_⟩
         · rw [if_pos (show b9 = 1 ∧ t = 0 by omega)]; first | rw [b01_t (by omega)] | rw [b01_f (by omega)]
         · rw [if_pos (show b9 = 1 ∧ t = 0 by omega)]; rfl)
      | (refine ⟨?_, rfl, ?_⟩
         · rw [if_neg (by omega)]; first | rw [b01_t (by omega)] | rw [b01_f (by omega)]
         · rw [if_neg (by omega), e_up_same hY])
  · refine e_aload_n F dX5_refuse_4 rfl ?_
    refine e_get (ci := 5) (fi := 0) (q := (RX5, TX5, 6)) F hY rfl (by decide) w_fl_RX5_25 (by rfl) dX5_refuse_5 ?_
    refine e_if_ne F 16 dX5_refuse_8 (by decide) (⟨by omega, by omega⟩) (fun c_8 => ?_) (fun c_8 => ?_)
    · refine e_aload_n F dX5_refuse_16 rfl ?_
      refine e_get (ci := 5) (fi := 0) (q := (RX5, TX5, 6)) F (by first | exact e_up_s | exact hY) rfl (by decide) w_fl_RX5_25 (by rfl) dX5_refuse_17 ?_
      refine e_if_le F 27 dX5_refuse_20 (by decide) (⟨by omega, by omega⟩) (fun c_20 => ?_) (fun c_20 => ?_)
      · refine e_iconst F dX5_refuse_27 ?_
        refine e_zret F rfl (by omega) (by omega) ?_ dX5_refuse_28
        first
        | (exfalso; omega)
        | (refine ⟨?_, rfl, ?_⟩
           · rw [if_pos (show b9 = 1 ∧ t = 0 by omega)]; first | rw [b01_t (by omega)] | rw [b01_f (by omega)]
           · rw [if_pos (show b9 = 1 ∧ t = 0 by omega)]; rfl)
        | (refine ⟨?_, rfl, ?_⟩
           · rw [if_neg (by omega)]; first | rw [b01_t (by omega)] | rw [b01_f (by omega)]
           · rw [if_neg (by omega), e_up_same hY])
      · refine e_iconst F dX5_refuse_23 ?_
        refine e_goto F 28 dX5_refuse_24 (by decide) ?_
        refine e_zret F rfl (by omega) (by omega) ?_ dX5_refuse_28
        first
        | (exfalso; omega)
        | (refine ⟨?_, rfl, ?_⟩
           · rw [if_pos (show b9 = 1 ∧ t = 0 by omega)]; first | rw [b01_t (by omega)] | rw [b01_f (by omega)]
           · rw [if_pos (show b9 = 1 ∧ t = 0 by omega)]; rfl)
        | (refine ⟨?_, rfl, ?_⟩
           · rw [if_neg (by omega)]; first | rw [b01_t (by omega)] | rw [b01_f (by omega)]
           · rw [if_neg (by omega), e_up_same hY])
    · refine e_aload_n F dX5_refuse_11 rfl ?_
      refine e_iload_n F dX5_refuse_12 rfl ?_
      refine e_set (host := "") (ci := 5) (fi := 0) (q := (RX5, TX5, 6)) F hY rfl (by decide) w_fl_RX5_25 rfl (by rfl) (by rfl) (Nat.le_of_ble_eq_true rfl) dX5_refuse_13 ?_
      refine e_aload_n F dX5_refuse_16 rfl ?_
      refine e_get (ci := 5) (fi := 0) (q := (RX5, TX5, 6)) F (by first | exact e_up_s | exact hY) rfl (by decide) w_fl_RX5_25 (by rfl) dX5_refuse_17 ?_
      refine e_if_le F 27 dX5_refuse_20 (by decide) (⟨by omega, by omega⟩) (fun c_20 => ?_) (fun c_20 => ?_)
      · refine e_iconst F dX5_refuse_27 ?_
        refine e_zret F rfl (by omega) (by omega) ?_ dX5_refuse_28
        first
        | (exfalso; omega)
        | (refine ⟨?_, rfl, ?_⟩
           · rw [if_pos (show b9 = 1 ∧ t = 0 by omega)]; first | rw [b01_t (by omega)] | rw [b01_f (by omega)]
           · rw [if_pos (show b9 = 1 ∧ t = 0 by omega)]; rfl)
        | (refine ⟨?_, rfl, ?_⟩
           · rw [if_neg (by omega)]; first | rw [b01_t (by omega)] | rw [b01_f (by omega)]
           · rw [if_neg (by omega), e_up_same hY])
      · refine e_iconst F dX5_refuse_23 ?_
        refine e_goto F 28 dX5_refuse_24 (by decide) ?_
        refine e_zret F rfl (by omega) (by omega) ?_ dX5_refuse_28
        first
        | (exfalso; omega)
        | (refine ⟨?_, rfl, ?_⟩
           · rw [if_pos (show b9 = 1 ∧ t = 0 by omega)]; first | rw [b01_t (by omega)] | rw [b01_f (by omega)]
           · rw [if_pos (show b9 = 1 ∧ t = 0 by omega)]; rfl)
        | (refine ⟨?_, rfl, ?_⟩
           · rw [if_neg (by omega)]; first | rw [b01_t (by omega)] | rw [b01_f (by omega)]
           · rw [if_neg (by omega), e_up_same hY])
set_option maxHeartbeats 4000000 in
set_option maxRecDepth 100000 in
theorem c_X5_start {K : e_K} {l : Launch} {w : e_W} {n : Nat} {y wh : Nat} {t kn b9 k9 : Int} (hY : w y = some (MO y t wh kn)) (hb : b9 = 0 ∨ b9 = 1) (hk0 : 1 ≤ k9) (hk1 : k9 ≤ 2) : e_Met K l yX5_start (Cond.code yX5_start cX5_start 3 (Option.some .boolean) :: e_TB) (1) (0) [.ref y, .int (eI b9), .int (eI k9)] w n (fun r w' n' => r = some (.int (eI b9)) ∧ n' = n ∧ w' = e_up w y (MO y (if b9 = 1 then k9 else 0) wh kn)) (e_px0) := by
  refine e_ofV rfl (Nat.le_of_ble_eq_true rfl) ?_
  intro P9 E9 S9 M9 A9 B9 T9 C9 F hnm
  refine e_aload_n F dX5_start_0 rfl ?_
  refine e_iconst F dX5_start_1 ?_
  refine e_set (host := "") (ci := 5) (fi := 0) (q := (RX5, TX5, 6)) F hY rfl (by decide) w_fl_RX5_25 rfl (by rfl) (by rfl) (Nat.le_of_ble_eq_true rfl) dX5_start_2 ?_
  refine e_aload_n F dX5_start_5 rfl ?_
  refine e_iload_n F dX5_start_6 rfl ?_
  refine e_iload_n F dX5_start_7 rfl ?_
  refine e_callVV F u_X5_refuse (by rfl) (c_X5_refuse (t := 0) (wh := wh) (kn := kn) (y := y) e_up_s (by decide) (by decide) hb hk0 hk1) e_up_s rfl rfl w_ml_RX5_28 dX5_start_8 (by rfl) (Nat.le_of_ble_eq_true rfl) (by decide) (by omega) (fun _ _ _ h _ => False.elim h) (fun r_8 w_8 n_8 h_8 hn_8 => ?_)
  obtain ⟨rfl, en_8, ew_8⟩ := h_8
  rw [en_8, ew_8]
  refine e_zret F rfl (by omega) (b01_or _) ?_ dX5_start_11
  refine ⟨?_, rfl, ?_⟩
  · rcases hb with h | h
    · rw [if_neg (by omega), b01_f (by omega), h]
    · rw [if_pos (by omega), b01_t (by omega), h]
  · rw [e_up_up]
    rcases hb with h | h
    · rw [if_neg (by omega), if_neg (by omega)]
    · rw [if_pos (by omega), if_pos (by omega)]
set_option maxHeartbeats 4000000 in
set_option maxRecDepth 100000 in
theorem c_X5_isEmpty {K : e_K} {l : Launch} {w : e_W} {n : Nat} {y wh : Nat} {t kn : Int} {R : Nat → RD} (hM : MW w y wh kn t R) {i : Nat} (hi : i < 6) : e_Met K l yX5_isEmpty (Cond.code yX5_isEmpty cX5_isEmpty 2 (Option.some .boolean) :: e_TB) (0) (0) [.ref y, .int (eI (i : Int))] w n (fun r w' n' => r = some (.int (eI (b01 ((R i).dg = -1)))) ∧ w' = w ∧ n' = n) (e_px0) := by
  refine e_ofV rfl (Nat.le_of_ble_eq_true rfl) ?_
  intro P9 E9 S9 M9 A9 B9 T9 C9 F hnm
  obtain ⟨hY, hwh, ⟨G, hG, hGe⟩, ⟨SS, PP, hS, hP, hMD⟩, hRV⟩ := id hM
  have hp := pr_rg wh hwh
  have hho := ho_rg wh hwh
  have hdg := MD.dg (hMD i hi)
  have hGi := hGe i hi
  have hRi := hRV i hi
  refine e_aload_n F dX5_isEmpty_0 rfl ?_
  refine e_get (ci := 5) (fi := 3) (q := (RX5, TX5, 6)) F hY rfl (by decide) w_fl_RX5_13 (by rfl) dX5_isEmpty_1 ?_
  refine e_iload_n F dX5_isEmpty_4 rfl ?_
  refine e_iald F hG (by omega) (by omega) (by first | decide | omega) dX5_isEmpty_5 ?_
  rw [hGi]
  refine e_iconst F dX5_isEmpty_6 ?_
  refine e_icmp_ne F 14 dX5_isEmpty_7 (by decide) (⟨by omega, by omega⟩) (⟨by omega, by omega⟩) (fun c_7 => ?_) (fun c_7 => ?_)
  · refine e_iconst F dX5_isEmpty_14 ?_
    refine e_zret F rfl (by omega) (by omega) ?_ dX5_isEmpty_15
    refine ⟨?_, rfl, rfl⟩
    first | rw [b01_t (by omega)] | rw [b01_f (by omega)]
  · refine e_iconst F dX5_isEmpty_10 ?_
    refine e_goto F 15 dX5_isEmpty_11 (by decide) ?_
    refine e_zret F rfl (by omega) (by omega) ?_ dX5_isEmpty_15
    refine ⟨?_, rfl, rfl⟩
    first | rw [b01_t (by omega)] | rw [b01_f (by omega)]
theorem pow_le7 {k : Nat} (h : k ≤ 7) : (2 : Int) ^ k ≤ 2 ^ 7 := by
  have h1 : (2 : Nat) ^ k ≤ 2 ^ 7 := Nat.pow_le_pow_right (by omega) h
  have h2 : (((2 : Nat) ^ k : Nat) : Int) ≤ (((2 : Nat) ^ 7 : Nat) : Int) := by exact_mod_cast h1
  rw [Int.natCast_pow, Int.natCast_pow] at h2
  exact h2
set_option maxHeartbeats 4000000 in
set_option maxRecDepth 100000 in
theorem c_X5_setOf {K : e_K} {l : Launch} {w : e_W} {n : Nat} {y wh : Nat} {t kn : Int} {R : Nat → RD} (hM : MW w y wh kn t R) {i : Nat} (hi : i < 6) : e_Met K l yX5_setOf (Cond.code yX5_setOf cX5_setOf 4 (Option.some .int) :: e_TB) (2) (0) [.ref y, .int (eI (i : Int))] w n (fun r w' n' => r = some (.int (eI (st7 (R i).A))) ∧ w' = w ∧ n' = n) (e_px0) := by
  refine e_ofV rfl (Nat.le_of_ble_eq_true rfl) ?_
  intro P9 E9 S9 M9 A9 B9 T9 C9 F hnm
  obtain ⟨hY, hwh, ⟨G, hG, hGe⟩, ⟨SS, PP, hS, hP, hMD⟩, hRV⟩ := id hM
  have hp := pr_rg wh hwh
  have hho := ho_rg wh hwh
  have hdg := MD.dg (hMD i hi)
  have hGi := hGe i hi
  have hRi := hRV i hi
  have lp : ∀ (N j : Nat), 8 - j < N → (j ≤ (ho wh).toNat) → e_V K P9 l E9 (2) (0) S9 M9 A9 B9 T9 C9 4 (fun r w' n' => r = some (.int (eI (st7 (R i).A))) ∧ w' = w ∧ n' = n) (e_px0) 7 [(0, .ref y), (1, .int (eI (i : Int))), (2, .int (eI (sfK (R i).A (ho wh).toNat j))), (3, .int (eI ((((ho wh).toNat : Nat) : Int) - (j : Int))))] [] w n (0) := by
    intro N
    induction N with
    | zero => intro j hN; exact absurd hN (Nat.not_lt_zero _)
    | succ N ih =>
      intro j hN hj
      have hsf := sfK_rg (R i).A (ho wh).toNat j
      have hpw : (2 : Int) ^ j ≤ 2 ^ 7 := pow_le7 (by omega)
      refine e_iload_n F dX5_setOf_7 rfl ?_
      refine e_if_le F 50 dX5_setOf_8 (by decide) (⟨by omega, by omega⟩) (fun c_8 => ?_) (fun c_8 => ?_)
      ·
        obtain rfl : j = (ho wh).toNat := by omega
        refine e_iload_n F dX5_setOf_50 rfl ?_
        refine e_iret F rfl (by omega) ?_ dX5_setOf_51
        exact ⟨by rw [hRi.top hwh], rfl, rfl⟩
      · refine e_iconst F dX5_setOf_11 ?_
        refine e_iload_n F dX5_setOf_12 rfl ?_
        refine e_imul F dX5_setOf_13 ?_
        refine e_aload_n F dX5_setOf_14 rfl ?_
        refine e_iload_n F dX5_setOf_15 rfl ?_
        refine e_callVV F u_X5_isEmpty (by rfl) (c_X5_isEmpty hM (i := i) hi) hY rfl rfl w_ml_RX5_113 dX5_setOf_16 (by rfl) (Nat.le_of_ble_eq_true rfl) (by decide) (by omega) (fun _ _ _ h _ => False.elim h) (fun r_16 w_16 n_16 h_16 hn_16 => ?_)
        obtain ⟨rfl, ew_16, en_16⟩ := h_16
        rw [ew_16, en_16]
        refine e_if_ne F 38 dX5_setOf_19 (by decide) (b01_r _) (fun c_19 => ?_) (fun c_19 => ?_)
        ·
          rw [ne_eq, b01_0, Classical.not_not] at c_19
          refine e_iconst F dX5_setOf_38 ?_
          refine e_callSS F u_X5_one (by rfl) (c_X5_one (b := _) (by first | exact Or.inl rfl | exact Or.inr rfl)) w_ml_RX5_80 dX5_setOf_39 (by rfl) (Nat.le_of_ble_eq_true rfl) (by decide) (by omega) (fun _ _ _ h _ => False.elim h) (fun r_39 w_39 n_39 h_39 hn_39 => ?_)
          obtain ⟨rfl, ew_39, en_39⟩ := h_39
          rw [ew_39, en_39]
          refine e_iadd F dX5_setOf_42 ?_
          refine e_istore_n F dX5_setOf_43 (by decide) ?_
          refine e_iinc F dX5_setOf_44 rfl (by decide) ?_
          refine e_goto F 7 dX5_setOf_47 (by decide) ?_
          first
          | (refine e_go (ih (j + 1) (by omega) (by omega)) ?_
             have e1 : sfK (R i).A (ho wh).toNat (j + 1) = 2 * sfK (R i).A (ho wh).toNat j + 1 := by
               show 2 * sfK (R i).A (ho wh).toNat j + (if _ then _ else _) = _
               rw [if_pos c_31]
             rw [e1, show ((((ho wh).toNat : Nat) : Int) - ((j + 1 : Nat) : Int)) = (((ho wh).toNat : Nat) : Int) - (j : Int) + -1 by omega]
             exact (And.intro rfl (And.intro rfl (And.intro rfl (And.intro rfl (trivial))))))
          | (refine e_go (ih (j + 1) (by omega) (by omega)) ?_
             have e1 : sfK (R i).A (ho wh).toNat (j + 1) = 2 * sfK (R i).A (ho wh).toNat j + 0 := by
               show 2 * sfK (R i).A (ho wh).toNat j + (if _ then _ else _) = _
               rw [if_neg (fun q => q (hRi.2.2 c_19 _ (by omega) (by omega)))]
             rw [e1, show ((((ho wh).toNat : Nat) : Int) - ((j + 1 : Nat) : Int)) = (((ho wh).toNat : Nat) : Int) - (j : Int) + -1 by omega]
             exact (And.intro rfl (And.intro rfl (And.intro rfl (And.intro rfl (trivial))))))
          | (refine e_go (ih (j + 1) (by omega) (by omega)) ?_
             have e1 : sfK (R i).A (ho wh).toNat (j + 1) = 2 * sfK (R i).A (ho wh).toNat j + 0 := by
               show 2 * sfK (R i).A (ho wh).toNat j + (if _ then _ else _) = _
               rw [if_neg (fun q => q c_31)]
             rw [e1, show ((((ho wh).toNat : Nat) : Int) - ((j + 1 : Nat) : Int)) = (((ho wh).toNat : Nat) : Int) - (j : Int) + -1 by omega]
             exact (And.intro rfl (And.intro rfl (And.intro rfl (And.intro rfl (trivial))))))
        ·
          rw [b01_0] at c_19
          obtain ⟨a, f, hSa, hya, hwa, hfr, hfA⟩ := MD.row (hMD i hi) c_19
          refine e_aload_n F dX5_setOf_22 rfl ?_
          refine e_get (ci := 5) (fi := 4) (q := (RX5, TX5, 6)) F hY rfl (by decide) w_fl_RX5_18 (by rfl) dX5_setOf_23 ?_
          refine e_iload_n F dX5_setOf_26 rfl ?_
          refine e_aaldr F hS (by omega) (by omega) (by decide) (hSa) dX5_setOf_27 ?_
          refine e_iload_n F dX5_setOf_28 rfl ?_
          refine e_iald F hwa (by omega) (by omega) (by first | decide | omega) dX5_setOf_29 ?_
          rw [hfA _ (by omega) (by omega)]
          have hAr := hM.rgA hi (j := (((ho wh).toNat : Nat) : Int) - (j : Int)) (by omega) (by omega)
          refine e_iconst F dX5_setOf_30 ?_
          refine e_icmp_eq F 38 dX5_setOf_31 (by decide) (⟨by omega, by omega⟩) (⟨by omega, by omega⟩) (fun c_31 => ?_) (fun c_31 => ?_)
          · refine e_iconst F dX5_setOf_38 ?_
            refine e_callSS F u_X5_one (by rfl) (c_X5_one (b := _) (by first | exact Or.inl rfl | exact Or.inr rfl)) w_ml_RX5_80 dX5_setOf_39 (by rfl) (Nat.le_of_ble_eq_true rfl) (by decide) (by omega) (fun _ _ _ h _ => False.elim h) (fun r_39 w_39 n_39 h_39 hn_39 => ?_)
            obtain ⟨rfl, ew_39, en_39⟩ := h_39
            rw [ew_39, en_39]
            refine e_iadd F dX5_setOf_42 ?_
            refine e_istore_n F dX5_setOf_43 (by decide) ?_
            refine e_iinc F dX5_setOf_44 rfl (by decide) ?_
            refine e_goto F 7 dX5_setOf_47 (by decide) ?_
            first
            | (refine e_go (ih (j + 1) (by omega) (by omega)) ?_
               have e1 : sfK (R i).A (ho wh).toNat (j + 1) = 2 * sfK (R i).A (ho wh).toNat j + 1 := by
                 show 2 * sfK (R i).A (ho wh).toNat j + (if _ then _ else _) = _
                 rw [if_pos c_31]
               rw [e1, show ((((ho wh).toNat : Nat) : Int) - ((j + 1 : Nat) : Int)) = (((ho wh).toNat : Nat) : Int) - (j : Int) + -1 by omega]
               exact (And.intro rfl (And.intro rfl (And.intro rfl (And.intro rfl (trivial))))))
            | (refine e_go (ih (j + 1) (by omega) (by omega)) ?_
               have e1 : sfK (R i).A (ho wh).toNat (j + 1) = 2 * sfK (R i).A (ho wh).toNat j + 0 := by
                 show 2 * sfK (R i).A (ho wh).toNat j + (if _ then _ else _) = _
                 rw [if_neg (fun q => q (hRi.2.2 c_19 _ (by omega) (by omega)))]
               rw [e1, show ((((ho wh).toNat : Nat) : Int) - ((j + 1 : Nat) : Int)) = (((ho wh).toNat : Nat) : Int) - (j : Int) + -1 by omega]
               exact (And.intro rfl (And.intro rfl (And.intro rfl (And.intro rfl (trivial))))))
            | (refine e_go (ih (j + 1) (by omega) (by omega)) ?_
               have e1 : sfK (R i).A (ho wh).toNat (j + 1) = 2 * sfK (R i).A (ho wh).toNat j + 0 := by
                 show 2 * sfK (R i).A (ho wh).toNat j + (if _ then _ else _) = _
                 rw [if_neg (fun q => q c_31)]
               rw [e1, show ((((ho wh).toNat : Nat) : Int) - ((j + 1 : Nat) : Int)) = (((ho wh).toNat : Nat) : Int) - (j : Int) + -1 by omega]
               exact (And.intro rfl (And.intro rfl (And.intro rfl (And.intro rfl (trivial))))))
          · refine e_iconst F dX5_setOf_34 ?_
            refine e_goto F 39 dX5_setOf_35 (by decide) ?_
            refine e_callSS F u_X5_one (by rfl) (c_X5_one (b := _) (by first | exact Or.inl rfl | exact Or.inr rfl)) w_ml_RX5_80 dX5_setOf_39 (by rfl) (Nat.le_of_ble_eq_true rfl) (by decide) (by omega) (fun _ _ _ h _ => False.elim h) (fun r_39 w_39 n_39 h_39 hn_39 => ?_)
            obtain ⟨rfl, ew_39, en_39⟩ := h_39
            rw [ew_39, en_39]
            refine e_iadd F dX5_setOf_42 ?_
            refine e_istore_n F dX5_setOf_43 (by decide) ?_
            refine e_iinc F dX5_setOf_44 rfl (by decide) ?_
            refine e_goto F 7 dX5_setOf_47 (by decide) ?_
            first
            | (refine e_go (ih (j + 1) (by omega) (by omega)) ?_
               have e1 : sfK (R i).A (ho wh).toNat (j + 1) = 2 * sfK (R i).A (ho wh).toNat j + 1 := by
                 show 2 * sfK (R i).A (ho wh).toNat j + (if _ then _ else _) = _
                 rw [if_pos c_31]
               rw [e1, show ((((ho wh).toNat : Nat) : Int) - ((j + 1 : Nat) : Int)) = (((ho wh).toNat : Nat) : Int) - (j : Int) + -1 by omega]
               exact (And.intro rfl (And.intro rfl (And.intro rfl (And.intro rfl (trivial))))))
            | (refine e_go (ih (j + 1) (by omega) (by omega)) ?_
               have e1 : sfK (R i).A (ho wh).toNat (j + 1) = 2 * sfK (R i).A (ho wh).toNat j + 0 := by
                 show 2 * sfK (R i).A (ho wh).toNat j + (if _ then _ else _) = _
                 rw [if_neg (fun q => q (hRi.2.2 c_19 _ (by omega) (by omega)))]
               rw [e1, show ((((ho wh).toNat : Nat) : Int) - ((j + 1 : Nat) : Int)) = (((ho wh).toNat : Nat) : Int) - (j : Int) + -1 by omega]
               exact (And.intro rfl (And.intro rfl (And.intro rfl (And.intro rfl (trivial))))))
            | (refine e_go (ih (j + 1) (by omega) (by omega)) ?_
               have e1 : sfK (R i).A (ho wh).toNat (j + 1) = 2 * sfK (R i).A (ho wh).toNat j + 0 := by
                 show 2 * sfK (R i).A (ho wh).toNat j + (if _ then _ else _) = _
                 rw [if_neg (fun q => q c_31)]
               rw [e1, show ((((ho wh).toNat : Nat) : Int) - ((j + 1 : Nat) : Int)) = (((ho wh).toNat : Nat) : Int) - (j : Int) + -1 by omega]
               exact (And.intro rfl (And.intro rfl (And.intro rfl (And.intro rfl (trivial))))))
  refine e_iconst F dX5_setOf_0 ?_
  refine e_istore_n F dX5_setOf_1 (by decide) ?_
  refine e_aload_n F dX5_setOf_2 rfl ?_
  refine e_callVV F u_X5_holders (by rfl) (c_X5_holders hY hwh) hY rfl rfl w_ml_RX5_52 dX5_setOf_3 (by rfl) (Nat.le_of_ble_eq_true rfl) (by decide) (by omega) (fun _ _ _ h _ => False.elim h) (fun r_3 w_3 n_3 h_3 hn_3 => ?_)
  obtain ⟨rfl, ew_3, en_3⟩ := h_3
  rw [ew_3, en_3]
  refine e_istore_n F dX5_setOf_6 (by decide) ?_
  refine e_go (lp 9 0 (by omega) (by omega)) ?_
  rw [show ((((ho wh).toNat : Nat) : Int) - ((0 : Nat) : Int)) = ho wh by omega]
  exact (And.intro rfl (And.intro rfl (And.intro rfl (And.intro rfl (trivial)))))
