/-! Poly -/
abbrev PO (a : Nat) : e_C := .inl (2, [.ref (a + 1), .ref (a + 2)])
def PR (p : Int) (P : Int → Int) : Prop := ∀ j, 0 ≤ j → j < 7 → 0 ≤ P j ∧ P j < p
def PL (w : e_W) (a : Nat) (P : Int → Int) : Prop := w a = some (PO a) ∧ PA w (a + 1) 7 0 7 P ∧ (∃ t, w (a + 2) = some (e_ia 7 t)) ∧ PR 1000003 P
def PF (w w' : e_W) (a : Nat) : Prop := ∀ q, q ≠ a + 1 → q ≠ a + 2 → w' q = w q
theorem PL.to {w : e_W} {a : Nat} {P Q : Int → Int} (h : PL w a P) (hq : ∀ j, 0 ≤ j → j < 7 → P j = Q j) : PL w a Q := by
  obtain ⟨h0, ⟨f, hf, hfP⟩, ht, hr⟩ := h
  exact ⟨h0, ⟨f, hf, fun j j0 j1 => by rw [hfP j j0 j1, hq j j0 j1]⟩, ht, fun j j0 j1 => by rw [← hq j j0 j1]; exact hr j j0 j1⟩
theorem FO_ne {w : e_W} {f a N : Nat} {g : Int → Int} {wh : Nat} (h1 : w f = some (FO wh)) (h2 : w a = some (e_ia N g)) : f ≠ a := by
  intro e
  rw [e, h2] at h1
  cases h1
theorem PO_ne {w : e_W} {f a : Nat} {wh : Nat} (h1 : w f = some (FO wh)) (h2 : w a = some (PO a)) : f ≠ a := by
  intro e
  rw [e, h2] at h1
  cases h1
def bcm (p dg a b c d : Int) : Int → Int := fun j => if j = 0 then a % p else if j = 1 then (if 1 ≤ dg then b % p else 0) else if j = 2 then (if 2 ≤ dg then c % p else 0) else if j = 3 then (if 3 ≤ dg then d % p else 0) else 0
/-- the value by steps from the greatest coefficient on -/
def hz (p x : Int) (P : Int → Int) : Nat → Int
  | 0 => 0
  | j + 1 => (hz p x P j * x + P (6 - (j : Int))) % p
theorem hz_rg {p x : Int} {P : Int → Int} (hp : 0 < p) (j : Nat) : 0 ≤ hz p x P j ∧ hz p x P j < p := by
  cases j with
  | zero => unfold hz; omega
  | succ j => unfold hz; exact ⟨Int.emod_nonneg _ (by omega), Int.emod_lt_of_pos _ hp⟩
def hiK (P : Int → Int) : Nat → Int
  | 0 => -1
  | j + 1 => if P (j : Int) ≠ 0 then (j : Int) else hiK P j
def tmS (p o : Int) (t : Int → Int) : Int → Int := fun c => ((if 0 < c then t (c - 1) else 0) - o * t c) % p
def tm (p h set : Int) : Nat → Int → Int
  | 0 => fun c => if c = 0 then 1 else 0
  | k + 1 => if ((k : Int) + 1 ≠ h ∧ hs set ((k : Int) + 1)) then tmS p ((k : Int) + 1) (tm p h set k) else tm p h set k
theorem tm_rg {p h set : Int} (hp : 2 ≤ p) (k : Nat) (c : Int) : 0 ≤ tm p h set k c ∧ tm p h set k c < p := by
  induction k generalizing c with
  | zero => unfold tm; split <;> omega
  | succ k ih =>
    unfold tm
    split
    · exact ⟨Int.emod_nonneg _ (by omega), Int.emod_lt_of_pos _ (by omega)⟩
    · exact ih c
def fac (wh : Nat) (set : Int) (A : Int → Int) (h : Int) : Int := A h * iv wh (wpr (pr wh) h h set (ho wh).toNat) % pr wh
def gt (wh : Nat) (set : Int) (A : Int → Int) : Nat → Int → Int
  | 0 => fun _ => 0
  | k + 1 => if hs set ((k : Int) + 1) then fun c => (gt wh set A k c + fac wh set A ((k : Int) + 1) * tm (pr wh) ((k : Int) + 1) set (ho wh).toNat c) % pr wh else gt wh set A k
theorem gt_rg {wh : Nat} {set : Int} {A : Int → Int} (hwh : wh < 7) (k : Nat) (c : Int) : 0 ≤ gt wh set A k c ∧ gt wh set A k c < pr wh := by
  have := pr_rg wh hwh
  induction k generalizing c with
  | zero => unfold gt; omega
  | succ k ih =>
    unfold gt
    split
    · exact ⟨Int.emod_nonneg _ (by omega), Int.emod_lt_of_pos _ (by omega)⟩
    · exact ih c
theorem mul_rg3 {a b c : Int} (ha : 0 ≤ a) (ha2 : a ≤ 36000109) (hb : -2147483700 ≤ b) (hb2 : b ≤ 2147483700) (hc : -2147483700 ≤ c) (hc2 : c ≤ 2147483700) : e_r8 (c + a * b) ∧ e_r8 (a * b + c) ∧ e_r8 (c - a * b) := by
  have h1 : a * b ≤ a * 2147483700 := Int.mul_le_mul_of_nonneg_left hb2 ha
  have h2 : a * (-2147483700) ≤ a * b := Int.mul_le_mul_of_nonneg_left hb ha
  refine ⟨⟨?_, ?_⟩, ⟨?_, ?_⟩, ⟨?_, ?_⟩⟩ <;> omega
set_option maxHeartbeats 4000000 in
set_option maxRecDepth 100000 in
theorem c_X2_clear {K : e_K} {l : Launch} {w : e_W} {n : Nat} {a : Nat} {g : Int → Int} (h0 : w a = some (PO a)) (hg : w (a + 1) = some (e_ia 7 g)) : e_Met K l yX2_clear (Cond.code yX2_clear cX2_clear 2 none :: e_TB) (0) (0) [.ref a] w n (fun r w' n' => r = none ∧ n' = n ∧ w' a = some (PO a) ∧ (∃ f', w' (a + 1) = some (e_ia 7 f') ∧ ∀ j, 0 ≤ j → j < 7 → f' j = 0) ∧ ∀ q, q ≠ a + 1 → w' q = w q) (e_px0) := by
  refine e_ofV rfl (Nat.le_of_ble_eq_true rfl) ?_
  intro P9 E9 S9 M9 A9 B9 T9 C9 F hnm
  have lp : ∀ (N : Nat) (i : Int) (wl : e_W) (g : Int → Int), (7 - i).toNat < N → (0 ≤ i ∧ i ≤ 7 ∧ wl a = some (PO a) ∧ wl (a + 1) = some (e_ia 7 g) ∧ (∀ j, 0 ≤ j → j < i → g j = 0) ∧ ∀ q, q ≠ a + 1 → wl q = w q) → e_V K P9 l E9 (0) (0) S9 M9 A9 B9 T9 C9 2 (fun r w' n' => r = none ∧ n' = n ∧ w' a = some (PO a) ∧ (∃ f', w' (a + 1) = some (e_ia 7 f') ∧ ∀ j, 0 ≤ j → j < 7 → f' j = 0) ∧ ∀ q, q ≠ a + 1 → w' q = w q) (e_px0) 2 [(0, .ref a), (1, .int (eI i))] [] wl n (0) := by
    intro N
    induction N with
    | zero => intro i wl g hN; exact absurd hN (Nat.not_lt_zero _)
    | succ N ih =>
      intro i wl g hN ⟨h1, h2, h3, h4, h5, h6⟩
      refine e_iload_n F dX2_clear_2 rfl ?_
      refine e_aload_n F dX2_clear_3 rfl ?_
      refine e_get (ci := 2) (fi := 0) (q := (RX2, TX2, 2)) F (by first | assumption | exact e_up_s | (rw [e_up_n (by first | assumption | omega)]; first | assumption | exact e_up_s | (rw [e_up_n (by first | assumption | omega)]; first | assumption | exact e_up_s | (rw [e_up_n (by first | assumption | omega)]; first | assumption | exact e_up_s))) | exact hD.1 | exact hD1.1 | exact hD2.1 | exact gD.1 | exact gD1.1 | exact gD2.1 | exact gQ.1 | exact hQ.1 | exact gS.1 | exact hS.1 | exact zD.1) rfl (by decide) w_fl_RX2_9 (by rfl) dX2_clear_4 ?_
      refine e_alenI F (by first | assumption | exact e_up_s | (rw [e_up_n (by first | assumption | omega)]; first | assumption | exact e_up_s | (rw [e_up_n (by first | assumption | omega)]; first | assumption | exact e_up_s | (rw [e_up_n (by first | assumption | omega)]; first | assumption | exact e_up_s))) | exact hD.1 | exact hD1.1 | exact hD2.1 | exact gD.1 | exact gD1.1 | exact gD2.1 | exact gQ.1 | exact hQ.1 | exact gS.1 | exact hS.1 | exact zD.1) dX2_clear_7 ?_
      refine e_icmp_ge F 24 dX2_clear_8 (by decide) (⟨by omega, by omega⟩) (⟨by omega, by omega⟩) (fun c_8 => ?_) (fun c_8 => ?_)
      · refine e_vret F rfl (by omega) ?_ dX2_clear_24
        exact ⟨rfl, rfl, h3, ⟨g, h4, fun j j0 j1 => h5 j j0 (by omega)⟩, h6⟩
      · refine e_aload_n F dX2_clear_11 rfl ?_
        refine e_get (ci := 2) (fi := 0) (q := (RX2, TX2, 2)) F (by first | assumption | exact e_up_s | (rw [e_up_n (by first | assumption | omega)]; first | assumption | exact e_up_s | (rw [e_up_n (by first | assumption | omega)]; first | assumption | exact e_up_s | (rw [e_up_n (by first | assumption | omega)]; first | assumption | exact e_up_s))) | exact hD.1 | exact hD1.1 | exact hD2.1 | exact gD.1 | exact gD1.1 | exact gD2.1 | exact gQ.1 | exact hQ.1 | exact gS.1 | exact hS.1 | exact zD.1) rfl (by decide) w_fl_RX2_9 (by rfl) dX2_clear_12 ?_
        refine e_iload_n F dX2_clear_15 rfl ?_
        refine e_iconst F dX2_clear_16 ?_
        refine e_iast F (by first | assumption | exact e_up_s | (rw [e_up_n (by first | assumption | omega)]; first | assumption | exact e_up_s | (rw [e_up_n (by first | assumption | omega)]; first | assumption | exact e_up_s | (rw [e_up_n (by first | assumption | omega)]; first | assumption | exact e_up_s))) | exact hD.1 | exact hD1.1 | exact hD2.1 | exact gD.1 | exact gD1.1 | exact gD2.1 | exact gQ.1 | exact hQ.1 | exact gS.1 | exact hS.1 | exact zD.1) (by omega) (by omega) (by first | decide | omega) dX2_clear_17 ?_
        refine e_iinc F dX2_clear_18 rfl (by decide) ?_
        refine e_goto F 2 dX2_clear_21 (by decide) ?_
        refine e_go (ih (i + 1) (e_up wl (a + 1) (e_ia 7 (e_fu g i 0))) (e_fu g i 0) (by omega) ⟨by omega, by omega, by rw [e_up_n (by omega)]; exact h3, e_up_s, fun j j0 j1 => ?_, fun q hq1 => by rw [e_up_n hq1]; exact h6 q hq1⟩) (And.intro rfl (And.intro rfl (trivial)))
        unfold e_fu
        split
        · rfl
        · exact h5 j j0 (by omega)
  refine e_iconst F dX2_clear_0 ?_
  refine e_istore_n F dX2_clear_1 (by decide) ?_
  exact e_go (lp 8 0 w g (by omega) ⟨by omega, by omega, h0, hg, fun j _ _ => by omega, fun q _ => rfl⟩) (And.intro rfl (And.intro rfl (trivial)))
set_option maxHeartbeats 4000000 in
set_option maxRecDepth 100000 in
theorem c_X2_init {K : e_K} {l : Launch} {w : e_W} {n : Nat} {a : Nat} {v0 v1 : Value} (h0 : w a = some (.inl (2, [v0, v1]))) (hn : n = a + 1) : e_Met K l yX2_init (Cond.code yX2_init cX2_init 1 none :: e_TB) (1) (2) [.ref a] w n (fun r w' n' => r = none ∧ n' = a + 3 ∧ PL w' a (fun _ => 0) ∧ ∀ q, q < a → w' q = w q) (e_px0) := by
  refine e_ofV rfl (Nat.le_of_ble_eq_true rfl) ?_
  intro P9 E9 S9 M9 A9 B9 T9 C9 F hnm
  subst hn
  refine e_aload_n F dX2_init_0 rfl ?_
  refine e_oinit F w_ml_RX2_3 w_im_java_lang_Object__init____V w_co_oinit (Nat.le_of_ble_eq_true rfl) (by decide) dX2_init_1 ?_
  refine e_aload_n F dX2_init_4 rfl ?_
  refine e_bipush F dX2_init_5 (by decide) ?_
  refine e_newI F (N := 7) (by first | rfl | omega) (by decide) (by omega) w_ac_int dX2_init_7 ?_
  refine e_setF (host := "") (ci := 2) (fi := 0) (q := (RX2, TX2, 2)) F (by first | assumption | exact e_up_s | (rw [e_up_n (by first | assumption | omega)]; first | assumption | exact e_up_s | (rw [e_up_n (by first | assumption | omega)]; first | assumption | exact e_up_s | (rw [e_up_n (by first | assumption | omega)]; first | assumption | exact e_up_s))) | exact hD.1 | exact hD1.1 | exact hD2.1 | exact gD.1 | exact gD1.1 | exact gD2.1 | exact gQ.1 | exact hQ.1 | exact gS.1 | exact hS.1 | exact zD.1) rfl (by decide) w_fl_RX2_9 hnm rfl rfl rfl (by rfl) (Nat.le_of_ble_eq_true rfl) dX2_init_9 ?_
  refine e_aload_n F dX2_init_12 rfl ?_
  refine e_bipush F dX2_init_13 (by decide) ?_
  refine e_newI F (N := 7) (by first | rfl | omega) (by decide) (by omega) w_ac_int dX2_init_15 ?_
  refine e_setF (host := "") (ci := 2) (fi := 1) (q := (RX2, TX2, 2)) F (by first | assumption | exact e_up_s | (rw [e_up_n (by first | assumption | omega)]; first | assumption | exact e_up_s | (rw [e_up_n (by first | assumption | omega)]; first | assumption | exact e_up_s | (rw [e_up_n (by first | assumption | omega)]; first | assumption | exact e_up_s))) | exact hD.1 | exact hD1.1 | exact hD2.1 | exact gD.1 | exact gD1.1 | exact gD2.1 | exact gQ.1 | exact hQ.1 | exact gS.1 | exact hS.1 | exact zD.1) rfl (by decide) w_fl_RX2_15 hnm rfl rfl rfl (by rfl) (Nat.le_of_ble_eq_true rfl) dX2_init_17 ?_
  refine e_vret F rfl (by omega) ?_ dX2_init_20
  have hne1 : a + 1 ≠ a := by omega
  have hne2 : a + 1 + 1 ≠ a := by omega
  have hne4 : a + 1 ≠ a + 1 + 1 := by omega
  refine ⟨rfl, rfl, ⟨e_up_s, ⟨fun _ => 0, by simp only [e_up, if_neg hne1, if_neg hne4]; rfl, fun j _ _ => rfl⟩, ⟨fun _ => 0, ?_⟩, fun j _ _ => by dsimp only; omega⟩, fun q hq => ?_⟩
  · show e_up _ a _ (a + 1 + 1) = _
    rw [e_up_n hne2, e_up_s]
  · rw [e_up_n (by omega), e_up_n (by omega), e_up_n (by omega), e_up_n (by omega)]
set_option maxHeartbeats 4000000 in
set_option maxRecDepth 100000 in
theorem c_X2_at {K : e_K} {l : Launch} {w : e_W} {n : Nat} {a : Nat} {P : Int → Int} (hQ : PL w a P) {h : Int} (h1 : e_r h) : e_Met K l yX2_at (Cond.code yX2_at cX2_at 2 (Option.some .int) :: e_TB) (0) (0) [.ref a, .int (eI h)] w n (fun r w' n' => r = some (.int (eI (if 0 ≤ h ∧ h < 7 then P h else 0))) ∧ w' = w ∧ n' = n) (e_px0) := by
  refine e_ofV rfl (Nat.le_of_ble_eq_true rfl) ?_
  intro P9 E9 S9 M9 A9 B9 T9 C9 F hnm
  have hQ0 := hQ
  obtain ⟨h0, ⟨P9f, hf, hfP⟩, ⟨t, ht⟩, hr⟩ := hQ
  refine e_iload_n F dX2_at_0 rfl ?_
  refine e_if_lt F 22 dX2_at_1 (by decide) (h1) (fun c_1 => ?_) (fun c_1 => ?_)
  · refine e_iconst F dX2_at_22 ?_
    refine e_iret F rfl (by omega) ?_ dX2_at_23
    refine ⟨?_, rfl, rfl⟩
    first | rw [if_neg (by omega)] | rw [if_pos (by omega), hfP h (by omega) (by omega)]
  · refine e_iload_n F dX2_at_4 rfl ?_
    refine e_aload_n F dX2_at_5 rfl ?_
    refine e_get (ci := 2) (fi := 0) (q := (RX2, TX2, 2)) F (by first | assumption | exact e_up_s | (rw [e_up_n (by first | assumption | omega)]; first | assumption | exact e_up_s | (rw [e_up_n (by first | assumption | omega)]; first | assumption | exact e_up_s | (rw [e_up_n (by first | assumption | omega)]; first | assumption | exact e_up_s))) | exact hD.1 | exact hD1.1 | exact hD2.1 | exact gD.1 | exact gD1.1 | exact gD2.1 | exact gQ.1 | exact hQ.1 | exact gS.1 | exact hS.1 | exact zD.1) rfl (by decide) w_fl_RX2_9 (by rfl) dX2_at_6 ?_
    refine e_alenI F (by first | assumption | exact e_up_s | (rw [e_up_n (by first | assumption | omega)]; first | assumption | exact e_up_s | (rw [e_up_n (by first | assumption | omega)]; first | assumption | exact e_up_s | (rw [e_up_n (by first | assumption | omega)]; first | assumption | exact e_up_s))) | exact hD.1 | exact hD1.1 | exact hD2.1 | exact gD.1 | exact gD1.1 | exact gD2.1 | exact gQ.1 | exact hQ.1 | exact gS.1 | exact hS.1 | exact zD.1) dX2_at_9 ?_
    refine e_icmp_ge F 22 dX2_at_10 (by decide) (h1) (⟨by omega, by omega⟩) (fun c_10 => ?_) (fun c_10 => ?_)
    · refine e_iconst F dX2_at_22 ?_
      refine e_iret F rfl (by omega) ?_ dX2_at_23
      refine ⟨?_, rfl, rfl⟩
      first | rw [if_neg (by omega)] | rw [if_pos (by omega), hfP h (by omega) (by omega)]
    · refine e_aload_n F dX2_at_13 rfl ?_
      refine e_get (ci := 2) (fi := 0) (q := (RX2, TX2, 2)) F (by first | assumption | exact e_up_s | (rw [e_up_n (by first | assumption | omega)]; first | assumption | exact e_up_s | (rw [e_up_n (by first | assumption | omega)]; first | assumption | exact e_up_s | (rw [e_up_n (by first | assumption | omega)]; first | assumption | exact e_up_s))) | exact hD.1 | exact hD1.1 | exact hD2.1 | exact gD.1 | exact gD1.1 | exact gD2.1 | exact gQ.1 | exact hQ.1 | exact gS.1 | exact hS.1 | exact zD.1) rfl (by decide) w_fl_RX2_9 (by rfl) dX2_at_14 ?_
      refine e_iload_n F dX2_at_17 rfl ?_
      refine e_iald F (by first | assumption | exact e_up_s | (rw [e_up_n (by first | assumption | omega)]; first | assumption | exact e_up_s | (rw [e_up_n (by first | assumption | omega)]; first | assumption | exact e_up_s | (rw [e_up_n (by first | assumption | omega)]; first | assumption | exact e_up_s))) | exact hD.1 | exact hD1.1 | exact hD2.1 | exact gD.1 | exact gD1.1 | exact gD2.1 | exact gQ.1 | exact hQ.1 | exact gS.1 | exact hS.1 | exact zD.1) (by omega) (by omega) (by first | decide | omega) dX2_at_18 ?_
      refine e_goto F 23 dX2_at_19 (by decide) ?_
      refine e_iret F rfl (by omega) ?_ dX2_at_23
      refine ⟨?_, rfl, rfl⟩
      first | rw [if_neg (by omega)] | rw [if_pos (by omega), hfP h (by omega) (by omega)]
set_option maxHeartbeats 4000000 in
set_option maxRecDepth 100000 in
theorem c_X2_addTo {K : e_K} {l : Launch} {w : e_W} {n : Nat} {a : Nat} {P : Int → Int} (hQ : PL w a P) {f wh : Nat} (hF : w f = some (FO wh)) (hwh : wh < 7) {h v u : Int} (h1 : 0 ≤ h) (h2 : h < 7) (hv : 0 ≤ v ∧ v < 1000003) (hu : e_r u) : e_Met K l yX2_addTo (Cond.code yX2_addTo cX2_addTo 5 none :: e_TB) (1) (0) [.ref a, .ref f, .int (eI h), .int (eI v), .int (eI u)] w n (fun r w' n' => r = none ∧ n' = n ∧ PL w' a (e_fu P h ((P h + v * u) % pr wh)) ∧ PF w w' a) (e_px0) := by
  refine e_ofV rfl (Nat.le_of_ble_eq_true rfl) ?_
  intro P9 E9 S9 M9 A9 B9 T9 C9 F hnm
  have hp := pr_rg wh hwh
  have ho9 := ho_rg wh hwh
  have hQ0 := hQ
  obtain ⟨h0, ⟨P9f, hf, hfP⟩, ⟨t, ht⟩, hr⟩ := hQ
  have hr9 := hr h h1 h2
  have hm := mul_rg3 hv.1 (by omega) (b := u) (by omega) (by omega) (c := P h) (by omega) (by omega)
  refine e_iload_n F dX2_addTo_0 rfl ?_
  refine e_if_lt F 37 dX2_addTo_1 (by decide) (⟨by omega, by omega⟩) (fun c_1 => ?_) (fun c_1 => ?_)
  · exact absurd c_1 (by omega)
  · refine e_iload_n F dX2_addTo_4 rfl ?_
    refine e_aload_n F dX2_addTo_5 rfl ?_
    refine e_get (ci := 2) (fi := 0) (q := (RX2, TX2, 2)) F (by first | assumption | exact e_up_s | (rw [e_up_n (by first | assumption | omega)]; first | assumption | exact e_up_s | (rw [e_up_n (by first | assumption | omega)]; first | assumption | exact e_up_s | (rw [e_up_n (by first | assumption | omega)]; first | assumption | exact e_up_s))) | exact hD.1 | exact hD1.1 | exact hD2.1 | exact gD.1 | exact gD1.1 | exact gD2.1 | exact gQ.1 | exact hQ.1 | exact gS.1 | exact hS.1 | exact zD.1) rfl (by decide) w_fl_RX2_9 (by rfl) dX2_addTo_6 ?_
    refine e_alenI F (by first | assumption | exact e_up_s | (rw [e_up_n (by first | assumption | omega)]; first | assumption | exact e_up_s | (rw [e_up_n (by first | assumption | omega)]; first | assumption | exact e_up_s | (rw [e_up_n (by first | assumption | omega)]; first | assumption | exact e_up_s))) | exact hD.1 | exact hD1.1 | exact hD2.1 | exact gD.1 | exact gD1.1 | exact gD2.1 | exact gQ.1 | exact hQ.1 | exact gS.1 | exact hS.1 | exact zD.1) dX2_addTo_9 ?_
    refine e_icmp_ge F 37 dX2_addTo_10 (by decide) (⟨by omega, by omega⟩) (⟨by omega, by omega⟩) (fun c_10 => ?_) (fun c_10 => ?_)
    · exact absurd c_10 (by omega)
    · refine e_aload_n F dX2_addTo_13 rfl ?_
      refine e_get (ci := 2) (fi := 0) (q := (RX2, TX2, 2)) F (by first | assumption | exact e_up_s | (rw [e_up_n (by first | assumption | omega)]; first | assumption | exact e_up_s | (rw [e_up_n (by first | assumption | omega)]; first | assumption | exact e_up_s | (rw [e_up_n (by first | assumption | omega)]; first | assumption | exact e_up_s))) | exact hD.1 | exact hD1.1 | exact hD2.1 | exact gD.1 | exact gD1.1 | exact gD2.1 | exact gQ.1 | exact hQ.1 | exact gS.1 | exact hS.1 | exact zD.1) rfl (by decide) w_fl_RX2_9 (by rfl) dX2_addTo_14 ?_
      refine e_iload_n F dX2_addTo_17 rfl ?_
      refine e_aload_n F dX2_addTo_18 rfl ?_
      refine e_aload_n F dX2_addTo_19 rfl ?_
      refine e_get (ci := 2) (fi := 0) (q := (RX2, TX2, 2)) F (by first | assumption | exact e_up_s | (rw [e_up_n (by first | assumption | omega)]; first | assumption | exact e_up_s | (rw [e_up_n (by first | assumption | omega)]; first | assumption | exact e_up_s | (rw [e_up_n (by first | assumption | omega)]; first | assumption | exact e_up_s))) | exact hD.1 | exact hD1.1 | exact hD2.1 | exact gD.1 | exact gD1.1 | exact gD2.1 | exact gQ.1 | exact hQ.1 | exact gS.1 | exact hS.1 | exact zD.1) rfl (by decide) w_fl_RX2_9 (by rfl) dX2_addTo_20 ?_
      refine e_iload_n F dX2_addTo_23 rfl ?_
      refine e_iald F (by first | assumption | exact e_up_s | (rw [e_up_n (by first | assumption | omega)]; first | assumption | exact e_up_s | (rw [e_up_n (by first | assumption | omega)]; first | assumption | exact e_up_s | (rw [e_up_n (by first | assumption | omega)]; first | assumption | exact e_up_s))) | exact hD.1 | exact hD1.1 | exact hD2.1 | exact gD.1 | exact gD1.1 | exact gD2.1 | exact gQ.1 | exact hQ.1 | exact gS.1 | exact hS.1 | exact zD.1) (by omega) (by omega) (by first | decide | omega) dX2_addTo_24 ?_
      rw [hfP h h1 h2]
      refine e_i2l F dX2_addTo_25 (⟨by omega, by omega⟩) ?_
      refine e_iload_n F dX2_addTo_26 rfl ?_
      refine e_i2l F dX2_addTo_27 (⟨by omega, by omega⟩) ?_
      refine e_iload F dX2_addTo_28 rfl ?_
      refine e_i2l F dX2_addTo_30 (⟨by omega, by omega⟩) ?_
      refine e_lmul F dX2_addTo_31 ?_
      refine e_ladd F dX2_addTo_32 ?_
      refine e_callVN F u_X1_modPrime (by rfl) (c_X1_modPrime hF hwh hm.1) (by first | assumption | exact e_up_s | (rw [e_up_n (by first | assumption | omega)]; first | assumption | exact e_up_s | (rw [e_up_n (by first | assumption | omega)]; first | assumption | exact e_up_s | (rw [e_up_n (by first | assumption | omega)]; first | assumption | exact e_up_s))) | exact hD.1 | exact hD1.1 | exact hD2.1 | exact gD.1 | exact gD1.1 | exact gD2.1 | exact gQ.1 | exact hQ.1 | exact gS.1 | exact hS.1 | exact zD.1) rfl rfl w_mn_RX2_18 dX2_addTo_33 (by rfl) (Nat.le_of_ble_eq_true rfl) (by decide) (by omega) (fun _ _ _ h _ => False.elim h) (fun r_33 w_33 n_33 h_33 hn_33 => ?_)
      obtain ⟨rfl, ew_33, en_33⟩ := h_33
      rw [ew_33, en_33]
      refine e_iast F (by first | assumption | exact e_up_s | (rw [e_up_n (by first | assumption | omega)]; first | assumption | exact e_up_s | (rw [e_up_n (by first | assumption | omega)]; first | assumption | exact e_up_s | (rw [e_up_n (by first | assumption | omega)]; first | assumption | exact e_up_s))) | exact hD.1 | exact hD1.1 | exact hD2.1 | exact gD.1 | exact gD1.1 | exact gD2.1 | exact gQ.1 | exact hQ.1 | exact gS.1 | exact hS.1 | exact zD.1) (by omega) (by omega) (by first | decide | omega) dX2_addTo_36 ?_
      refine e_vret F rfl (by omega) ?_ dX2_addTo_37
      refine ⟨rfl, rfl, ⟨by rw [e_up_n (by omega)]; exact h0, ⟨_, e_up_s, fun j j0 j1 => ?_⟩, ⟨t, by rw [e_up_n (by omega)]; exact ht⟩, fun j j0 j1 => ?_⟩, fun q q1 _ => e_up_n q1⟩
      · unfold e_fu
        split
        · rfl
        · exact hfP j j0 j1
      · unfold e_fu
        split
        · have h8 := emod_rg (P h + v * u) hwh
          omega
        · exact hr j j0 j1
set_option maxHeartbeats 4000000 in
set_option maxRecDepth 100000 in
theorem c_X2_become {K : e_K} {l : Launch} {w : e_W} {n : Nat} {a : Nat} {P : Int → Int} (hQ : PL w a P) {f wh : Nat} (hF : w f = some (FO wh)) (hwh : wh < 7) {dg a0 b0 c0 d0 : Int} (hdg : 0 ≤ dg ∧ dg ≤ 6) (ha : e_r a0) (hb : e_r b0) (hc : e_r c0) (hd : e_r d0) : e_Met K l yX2_become (Cond.code yX2_become cX2_become 7 none :: e_TB) (2) (0) [.ref a, .ref f, .int (eI dg), .int (eI a0), .int (eI b0), .int (eI c0), .int (eI d0)] w n (fun r w' n' => r = none ∧ n' = n ∧ PL w' a (bcm (pr wh) dg a0 b0 c0 d0) ∧ PF w w' a) (e_px0) := by
  refine e_ofV rfl (Nat.le_of_ble_eq_true rfl) ?_
  intro P9 E9 S9 M9 A9 B9 T9 C9 F hnm
  have hp := pr_rg wh hwh
  have ho9 := ho_rg wh hwh
  have hQ0 := hQ
  obtain ⟨h0, ⟨P9f, hf, hfP⟩, ⟨t, ht⟩, hr⟩ := hQ
  have hne1 : f ≠ a + 1 := FO_ne hF hf
  have hne2 : f ≠ a + 2 := FO_ne hF ht
  rcases (show dg = 0 ∨ dg = 1 ∨ dg = 2 ∨ dg = 3 ∨ dg = 4 ∨ dg = 5 ∨ dg = 6 by omega) with rfl | rfl | rfl | rfl | rfl | rfl | rfl
  · refine e_aload_n F dX2_become_0 rfl ?_
    refine e_callVV F u_X2_clear (by rfl) (c_X2_clear h0 hf) (by first | assumption | exact e_up_s | (rw [e_up_n (by first | assumption | omega)]; first | assumption | exact e_up_s | (rw [e_up_n (by first | assumption | omega)]; first | assumption | exact e_up_s | (rw [e_up_n (by first | assumption | omega)]; first | assumption | exact e_up_s))) | exact hD.1 | exact hD1.1 | exact hD2.1 | exact gD.1 | exact gD1.1 | exact gD2.1 | exact gQ.1 | exact hQ.1 | exact gS.1 | exact hS.1 | exact zD.1) rfl rfl w_ml_RX2_24 dX2_become_1 (by rfl) (Nat.le_of_ble_eq_true rfl) (by decide) (by omega) (fun _ _ _ h _ => False.elim h) (fun r_1 w_1 n_1 h_1 hn_1 => ?_)
    obtain ⟨rfl, en0, g0a, ⟨f1, g0b, g0c⟩, e0⟩ := h_1
    rw [en0]
    have hF0 : w_1 f = some (FO wh) := by rw [e0 f hne1]; exact hF
    have g0 : PL w_1 a (fun _ => 0) := ⟨g0a, ⟨f1, g0b, g0c⟩, ⟨t, by rw [e0 _ (by omega)]; exact ht⟩, fun j _ _ => by dsimp only; omega⟩
    refine e_aload_n F dX2_become_4 rfl ?_
    refine e_aload_n F dX2_become_5 rfl ?_
    refine e_iconst F dX2_become_6 ?_
    refine e_iconst F dX2_become_7 ?_
    refine e_iload_n F dX2_become_8 rfl ?_
    refine e_callVV F u_X2_addTo (by rfl) (c_X2_addTo g0 hF0 hwh (by omega) (by omega) (by omega) ha) g0.1 rfl rfl w_ml_RX2_27 dX2_become_9 (by rfl) (Nat.le_of_ble_eq_true rfl) (by decide) (by omega) (fun _ _ _ h _ => False.elim h) (fun r_9 w_9 n_9 h_9 hn_9 => ?_)
    obtain ⟨rfl, en1, g1, e1⟩ := h_9
    rw [en1]
    have hF1 : w_9 f = some (FO wh) := by rw [e1 f hne1 hne2]; exact hF0
    refine e_iload_n F dX2_become_12 rfl ?_
    refine e_iconst F dX2_become_13 ?_
    refine e_icmp_lt F 26 dX2_become_14 (by decide) (⟨by omega, by omega⟩) (⟨by omega, by omega⟩) (fun c_14 => ?_) (fun c_14 => ?_)
    · refine e_iload_n F dX2_become_26 rfl ?_
      refine e_iconst F dX2_become_27 ?_
      refine e_icmp_lt F 40 dX2_become_28 (by decide) (⟨by omega, by omega⟩) (⟨by omega, by omega⟩) (fun c_28 => ?_) (fun c_28 => ?_)
      · refine e_iload_n F dX2_become_40 rfl ?_
        refine e_iconst F dX2_become_41 ?_
        refine e_icmp_lt F 54 dX2_become_42 (by decide) (⟨by omega, by omega⟩) (⟨by omega, by omega⟩) (fun c_42 => ?_) (fun c_42 => ?_)
        · refine e_vret F rfl (by omega) ?_ dX2_become_54
          refine ⟨rfl, rfl, g1.to (fun j j0 j1 => ?_), fun q q1 q2 => by rw [e1 q q1 q2, e0 q q1]⟩
          rcases (show j = 0 ∨ j = 1 ∨ j = 2 ∨ j = 3 ∨ j = 4 ∨ j = 5 ∨ j = 6 by omega) with rfl | rfl | rfl | rfl | rfl | rfl | rfl <;> simp [e_fu, bcm]
        · exact absurd c_42 (by omega)
      · exact absurd c_28 (by omega)
    · exact absurd c_14 (by omega)
  · refine e_aload_n F dX2_become_0 rfl ?_
    refine e_callVV F u_X2_clear (by rfl) (c_X2_clear h0 hf) (by first | assumption | exact e_up_s | (rw [e_up_n (by first | assumption | omega)]; first | assumption | exact e_up_s | (rw [e_up_n (by first | assumption | omega)]; first | assumption | exact e_up_s | (rw [e_up_n (by first | assumption | omega)]; first | assumption | exact e_up_s))) | exact hD.1 | exact hD1.1 | exact hD2.1 | exact gD.1 | exact gD1.1 | exact gD2.1 | exact gQ.1 | exact hQ.1 | exact gS.1 | exact hS.1 | exact zD.1) rfl rfl w_ml_RX2_24 dX2_become_1 (by rfl) (Nat.le_of_ble_eq_true rfl) (by decide) (by omega) (fun _ _ _ h _ => False.elim h) (fun r_1 w_1 n_1 h_1 hn_1 => ?_)
    obtain ⟨rfl, en0, g0a, ⟨f1, g0b, g0c⟩, e0⟩ := h_1
    rw [en0]
    have hF0 : w_1 f = some (FO wh) := by rw [e0 f hne1]; exact hF
    have g0 : PL w_1 a (fun _ => 0) := ⟨g0a, ⟨f1, g0b, g0c⟩, ⟨t, by rw [e0 _ (by omega)]; exact ht⟩, fun j _ _ => by dsimp only; omega⟩
    refine e_aload_n F dX2_become_4 rfl ?_
    refine e_aload_n F dX2_become_5 rfl ?_
    refine e_iconst F dX2_become_6 ?_
    refine e_iconst F dX2_become_7 ?_
    refine e_iload_n F dX2_become_8 rfl ?_
    refine e_callVV F u_X2_addTo (by rfl) (c_X2_addTo g0 hF0 hwh (by omega) (by omega) (by omega) ha) g0.1 rfl rfl w_ml_RX2_27 dX2_become_9 (by rfl) (Nat.le_of_ble_eq_true rfl) (by decide) (by omega) (fun _ _ _ h _ => False.elim h) (fun r_9 w_9 n_9 h_9 hn_9 => ?_)
    obtain ⟨rfl, en1, g1, e1⟩ := h_9
    rw [en1]
    have hF1 : w_9 f = some (FO wh) := by rw [e1 f hne1 hne2]; exact hF0
    refine e_iload_n F dX2_become_12 rfl ?_
    refine e_iconst F dX2_become_13 ?_
    refine e_icmp_lt F 26 dX2_become_14 (by decide) (⟨by omega, by omega⟩) (⟨by omega, by omega⟩) (fun c_14 => ?_) (fun c_14 => ?_)
    · exact absurd c_14 (by omega)
    · refine e_aload_n F dX2_become_17 rfl ?_
      refine e_aload_n F dX2_become_18 rfl ?_
      refine e_iconst F dX2_become_19 ?_
      refine e_iconst F dX2_become_20 ?_
      refine e_iload F dX2_become_21 rfl ?_
      refine e_callVV F u_X2_addTo (by rfl) (c_X2_addTo g1 hF1 hwh (by omega) (by omega) (by omega) hb) g1.1 rfl rfl w_ml_RX2_27 dX2_become_23 (by rfl) (Nat.le_of_ble_eq_true rfl) (by decide) (by omega) (fun _ _ _ h _ => False.elim h) (fun r_23 w_23 n_23 h_23 hn_23 => ?_)
      obtain ⟨rfl, en2, g2, e2⟩ := h_23
      rw [en2]
      have hF2 : w_23 f = some (FO wh) := by rw [e2 f hne1 hne2]; exact hF1
      refine e_iload_n F dX2_become_26 rfl ?_
      refine e_iconst F dX2_become_27 ?_
      refine e_icmp_lt F 40 dX2_become_28 (by decide) (⟨by omega, by omega⟩) (⟨by omega, by omega⟩) (fun c_28 => ?_) (fun c_28 => ?_)
      · refine e_iload_n F dX2_become_40 rfl ?_
        refine e_iconst F dX2_become_41 ?_
        refine e_icmp_lt F 54 dX2_become_42 (by decide) (⟨by omega, by omega⟩) (⟨by omega, by omega⟩) (fun c_42 => ?_) (fun c_42 => ?_)
        · refine e_vret F rfl (by omega) ?_ dX2_become_54
          refine ⟨rfl, rfl, g2.to (fun j j0 j1 => ?_), fun q q1 q2 => by rw [e2 q q1 q2, e1 q q1 q2, e0 q q1]⟩
          rcases (show j = 0 ∨ j = 1 ∨ j = 2 ∨ j = 3 ∨ j = 4 ∨ j = 5 ∨ j = 6 by omega) with rfl | rfl | rfl | rfl | rfl | rfl | rfl <;> simp [e_fu, bcm]
        · exact absurd c_42 (by omega)
      · exact absurd c_28 (by omega)
  · refine e_aload_n F dX2_become_0 rfl ?_
    refine e_callVV F u_X2_clear (by rfl) (c_X2_clear h0 hf) (by first | assumption | exact e_up_s | (rw [e_up_n (by first | assumption | omega)]; first | assumption | exact e_up_s | (rw [e_up_n (by first | assumption | omega)]; first | assumption | exact e_up_s | (rw [e_up_n (by first | assumption | omega)]; first | assumption | exact e_up_s))) | exact hD.1 | exact hD1.1 | exact hD2.1 | exact gD.1 | exact gD1.1 | exact gD2.1 | exact gQ.1 | exact hQ.1 | exact gS.1 | exact hS.1 | exact zD.1) rfl rfl w_ml_RX2_24 dX2_become_1 (by rfl) (Nat.le_of_ble_eq_true rfl) (by decide) (by omega) (fun _ _ _ h _ => False.elim h) (fun r_1 w_1 n_1 h_1 hn_1 => ?_)
    obtain ⟨rfl, en0, g0a, ⟨f1, g0b, g0c⟩, e0⟩ := h_1
    rw [en0]
    have hF0 : w_1 f = some (FO wh) := by rw [e0 f hne1]; exact hF
    have g0 : PL w_1 a (fun _ => 0) := ⟨g0a, ⟨f1, g0b, g0c⟩, ⟨t, by rw [e0 _ (by omega)]; exact ht⟩, fun j _ _ => by dsimp only; omega⟩
    refine e_aload_n F dX2_become_4 rfl ?_
    refine e_aload_n F dX2_become_5 rfl ?_
    refine e_iconst F dX2_become_6 ?_
    refine e_iconst F dX2_become_7 ?_
    refine e_iload_n F dX2_become_8 rfl ?_
    refine e_callVV F u_X2_addTo (by rfl) (c_X2_addTo g0 hF0 hwh (by omega) (by omega) (by omega) ha) g0.1 rfl rfl w_ml_RX2_27 dX2_become_9 (by rfl) (Nat.le_of_ble_eq_true rfl) (by decide) (by omega) (fun _ _ _ h _ => False.elim h) (fun r_9 w_9 n_9 h_9 hn_9 => ?_)
    obtain ⟨rfl, en1, g1, e1⟩ := h_9
    rw [en1]
    have hF1 : w_9 f = some (FO wh) := by rw [e1 f hne1 hne2]; exact hF0
    refine e_iload_n F dX2_become_12 rfl ?_
    refine e_iconst F dX2_become_13 ?_
    refine e_icmp_lt F 26 dX2_become_14 (by decide) (⟨by omega, by omega⟩) (⟨by omega, by omega⟩) (fun c_14 => ?_) (fun c_14 => ?_)
    · exact absurd c_14 (by omega)
    · refine e_aload_n F dX2_become_17 rfl ?_
      refine e_aload_n F dX2_become_18 rfl ?_
      refine e_iconst F dX2_become_19 ?_
      refine e_iconst F dX2_become_20 ?_
      refine e_iload F dX2_become_21 rfl ?_
      refine e_callVV F u_X2_addTo (by rfl) (c_X2_addTo g1 hF1 hwh (by omega) (by omega) (by omega) hb) g1.1 rfl rfl w_ml_RX2_27 dX2_become_23 (by rfl) (Nat.le_of_ble_eq_true rfl) (by decide) (by omega) (fun _ _ _ h _ => False.elim h) (fun r_23 w_23 n_23 h_23 hn_23 => ?_)
      obtain ⟨rfl, en2, g2, e2⟩ := h_23
      rw [en2]
      have hF2 : w_23 f = some (FO wh) := by rw [e2 f hne1 hne2]; exact hF1
      refine e_iload_n F dX2_become_26 rfl ?_
      refine e_iconst F dX2_become_27 ?_
      refine e_icmp_lt F 40 dX2_become_28 (by decide) (⟨by omega, by omega⟩) (⟨by omega, by omega⟩) (fun c_28 => ?_) (fun c_28 => ?_)
      · exact absurd c_28 (by omega)
      · refine e_aload_n F dX2_become_31 rfl ?_
        refine e_aload_n F dX2_become_32 rfl ?_
        refine e_iconst F dX2_become_33 ?_
        refine e_iconst F dX2_become_34 ?_
        refine e_iload F dX2_become_35 rfl ?_
        refine e_callVV F u_X2_addTo (by rfl) (c_X2_addTo g2 hF2 hwh (by omega) (by omega) (by omega) hc) g2.1 rfl rfl w_ml_RX2_27 dX2_become_37 (by rfl) (Nat.le_of_ble_eq_true rfl) (by decide) (by omega) (fun _ _ _ h _ => False.elim h) (fun r_37 w_37 n_37 h_37 hn_37 => ?_)
        obtain ⟨rfl, en3, g3, e3⟩ := h_37
        rw [en3]
        have hF3 : w_37 f = some (FO wh) := by rw [e3 f hne1 hne2]; exact hF2
        refine e_iload_n F dX2_become_40 rfl ?_
        refine e_iconst F dX2_become_41 ?_
        refine e_icmp_lt F 54 dX2_become_42 (by decide) (⟨by omega, by omega⟩) (⟨by omega, by omega⟩) (fun c_42 => ?_) (fun c_42 => ?_)
        · refine e_vret F rfl (by omega) ?_ dX2_become_54
          refine ⟨rfl, rfl, g3.to (fun j j0 j1 => ?_), fun q q1 q2 => by rw [e3 q q1 q2, e2 q q1 q2, e1 q q1 q2, e0 q q1]⟩
          rcases (show j = 0 ∨ j = 1 ∨ j = 2 ∨ j = 3 ∨ j = 4 ∨ j = 5 ∨ j = 6 by omega) with rfl | rfl | rfl | rfl | rfl | rfl | rfl <;> simp [e_fu, bcm]
        · exact absurd c_42 (by omega)
  · refine e_aload_n F dX2_become_0 rfl ?_
    refine e_callVV F u_X2_clear (by rfl) (c_X2_clear h0 hf) (by first | assumption | exact e_up_s | (rw [e_up_n (by first | assumption | omega)]; first | assumption | exact e_up_s | (rw [e_up_n (by first | assumption | omega)]; first | assumption | exact e_up_s | (rw [e_up_n (by first | assumption | omega)]; first | assumption | exact e_up_s))) | exact hD.1 | exact hD1.1 | exact hD2.1 | exact gD.1 | exact gD1.1 | exact gD2.1 | exact gQ.1 | exact hQ.1 | exact gS.1 | exact hS.1 | exact zD.1) rfl rfl w_ml_RX2_24 dX2_become_1 (by rfl) (Nat.le_of_ble_eq_true rfl) (by decide) (by omega) (fun _ _ _ h _ => False.elim h) (fun r_1 w_1 n_1 h_1 hn_1 => ?_)
    obtain ⟨rfl, en0, g0a, ⟨f1, g0b, g0c⟩, e0⟩ := h_1
    rw [en0]
    have hF0 : w_1 f = some (FO wh) := by rw [e0 f hne1]; exact hF
    have g0 : PL w_1 a (fun _ => 0) := ⟨g0a, ⟨f1, g0b, g0c⟩, ⟨t, by rw [e0 _ (by omega)]; exact ht⟩, fun j _ _ => by dsimp only; omega⟩
    refine e_aload_n F dX2_become_4 rfl ?_
    refine e_aload_n F dX2_become_5 rfl ?_
    refine e_iconst F dX2_become_6 ?_
    refine e_iconst F dX2_become_7 ?_
    refine e_iload_n F dX2_become_8 rfl ?_
    refine e_callVV F u_X2_addTo (by rfl) (c_X2_addTo g0 hF0 hwh (by omega) (by omega) (by omega) ha) g0.1 rfl rfl w_ml_RX2_27 dX2_become_9 (by rfl) (Nat.le_of_ble_eq_true rfl) (by decide) (by omega) (fun _ _ _ h _ => False.elim h) (fun r_9 w_9 n_9 h_9 hn_9 => ?_)
    obtain ⟨rfl, en1, g1, e1⟩ := h_9
    rw [en1]
    have hF1 : w_9 f = some (FO wh) := by rw [e1 f hne1 hne2]; exact hF0
    refine e_iload_n F dX2_become_12 rfl ?_
    refine e_iconst F dX2_become_13 ?_
    refine e_icmp_lt F 26 dX2_become_14 (by decide) (⟨by omega, by omega⟩) (⟨by omega, by omega⟩) (fun c_14 => ?_) (fun c_14 => ?_)
    · exact absurd c_14 (by omega)
    · refine e_aload_n F dX2_become_17 rfl ?_
      refine e_aload_n F dX2_become_18 rfl ?_
      refine e_iconst F dX2_become_19 ?_
      refine e_iconst F dX2_become_20 ?_
      refine e_iload F dX2_become_21 rfl ?_
      refine e_callVV F u_X2_addTo (by rfl) (c_X2_addTo g1 hF1 hwh (by omega) (by omega) (by omega) hb) g1.1 rfl rfl w_ml_RX2_27 dX2_become_23 (by rfl) (Nat.le_of_ble_eq_true rfl) (by decide) (by omega) (fun _ _ _ h _ => False.elim h) (fun r_23 w_23 n_23 h_23 hn_23 => ?_)
      obtain ⟨rfl, en2, g2, e2⟩ := h_23
      rw [en2]
      have hF2 : w_23 f = some (FO wh) := by rw [e2 f hne1 hne2]; exact hF1
      refine e_iload_n F dX2_become_26 rfl ?_
      refine e_iconst F dX2_become_27 ?_
      refine e_icmp_lt F 40 dX2_become_28 (by decide) (⟨by omega, by omega⟩) (⟨by omega, by omega⟩) (fun c_28 => ?_) (fun c_28 => ?_)
      · exact absurd c_28 (by omega)
      · refine e_aload_n F dX2_become_31 rfl ?_
        refine e_aload_n F dX2_become_32 rfl ?_
        refine e_iconst F dX2_become_33 ?_
        refine e_iconst F dX2_become_34 ?_
        refine e_iload F dX2_become_35 rfl ?_
        refine e_callVV F u_X2_addTo (by rfl) (c_X2_addTo g2 hF2 hwh (by omega) (by omega) (by omega) hc) g2.1 rfl rfl w_ml_RX2_27 dX2_become_37 (by rfl) (Nat.le_of_ble_eq_true rfl) (by decide) (by omega) (fun _ _ _ h _ => False.elim h) (fun r_37 w_37 n_37 h_37 hn_37 => ?_)
        obtain ⟨rfl, en3, g3, e3⟩ := h_37
        rw [en3]
        have hF3 : w_37 f = some (FO wh) := by rw [e3 f hne1 hne2]; exact hF2
        refine e_iload_n F dX2_become_40 rfl ?_
        refine e_iconst F dX2_become_41 ?_
        refine e_icmp_lt F 54 dX2_become_42 (by decide) (⟨by omega, by omega⟩) (⟨by omega, by omega⟩) (fun c_42 => ?_) (fun c_42 => ?_)
        · exact absurd c_42 (by omega)
        · refine e_aload_n F dX2_become_45 rfl ?_
          refine e_aload_n F dX2_become_46 rfl ?_
          refine e_iconst F dX2_become_47 ?_
          refine e_iconst F dX2_become_48 ?_
          refine e_iload F dX2_become_49 rfl ?_
          refine e_callVV F u_X2_addTo (by rfl) (c_X2_addTo g3 hF3 hwh (by omega) (by omega) (by omega) hd) g3.1 rfl rfl w_ml_RX2_27 dX2_become_51 (by rfl) (Nat.le_of_ble_eq_true rfl) (by decide) (by omega) (fun _ _ _ h _ => False.elim h) (fun r_51 w_51 n_51 h_51 hn_51 => ?_)
          obtain ⟨rfl, en4, g4, e4⟩ := h_51
          rw [en4]
          have hF4 : w_51 f = some (FO wh) := by rw [e4 f hne1 hne2]; exact hF3
          refine e_vret F rfl (by omega) ?_ dX2_become_54
          refine ⟨rfl, rfl, g4.to (fun j j0 j1 => ?_), fun q q1 q2 => by rw [e4 q q1 q2, e3 q q1 q2, e2 q q1 q2, e1 q q1 q2, e0 q q1]⟩
          rcases (show j = 0 ∨ j = 1 ∨ j = 2 ∨ j = 3 ∨ j = 4 ∨ j = 5 ∨ j = 6 by omega) with rfl | rfl | rfl | rfl | rfl | rfl | rfl <;> simp [e_fu, bcm]
  · refine e_aload_n F dX2_become_0 rfl ?_
    refine e_callVV F u_X2_clear (by rfl) (c_X2_clear h0 hf) (by first | assumption | exact e_up_s | (rw [e_up_n (by first | assumption | omega)]; first | assumption | exact e_up_s | (rw [e_up_n (by first | assumption | omega)]; first | assumption | exact e_up_s | (rw [e_up_n (by first | assumption | omega)]; first | assumption | exact e_up_s))) | exact hD.1 | exact hD1.1 | exact hD2.1 | exact gD.1 | exact gD1.1 | exact gD2.1 | exact gQ.1 | exact hQ.1 | exact gS.1 | exact hS.1 | exact zD.1) rfl rfl w_ml_RX2_24 dX2_become_1 (by rfl) (Nat.le_of_ble_eq_true rfl) (by decide) (by omega) (fun _ _ _ h _ => False.elim h) (fun r_1 w_1 n_1 h_1 hn_1 => ?_)
    obtain ⟨rfl, en0, g0a, ⟨f1, g0b, g0c⟩, e0⟩ := h_1
    rw [en0]
    have hF0 : w_1 f = some (FO wh) := by rw [e0 f hne1]; exact hF
    have g0 : PL w_1 a (fun _ => 0) := ⟨g0a, ⟨f1, g0b, g0c⟩, ⟨t, by rw [e0 _ (by omega)]; exact ht⟩, fun j _ _ => by dsimp only; omega⟩
    refine e_aload_n F dX2_become_4 rfl ?_
    refine e_aload_n F dX2_become_5 rfl ?_
    refine e_iconst F dX2_become_6 ?_
    refine e_iconst F dX2_become_7 ?_
    refine e_iload_n F dX2_become_8 rfl ?_
    refine e_callVV F u_X2_addTo (by rfl) (c_X2_addTo g0 hF0 hwh (by omega) (by omega) (by omega) ha) g0.1 rfl rfl w_ml_RX2_27 dX2_become_9 (by rfl) (Nat.le_of_ble_eq_true rfl) (by decide) (by omega) (fun _ _ _ h _ => False.elim h) (fun r_9 w_9 n_9 h_9 hn_9 => ?_)
    obtain ⟨rfl, en1, g1, e1⟩ := h_9
    rw [en1]
    have hF1 : w_9 f = some (FO wh) := by rw [e1 f hne1 hne2]; exact hF0
    refine e_iload_n F dX2_become_12 rfl ?_
    refine e_iconst F dX2_become_13 ?_
    refine e_icmp_lt F 26 dX2_become_14 (by decide) (⟨by omega, by omega⟩) (⟨by omega, by omega⟩) (fun c_14 => ?_) (fun c_14 => ?_)
    · exact absurd c_14 (by omega)
    · refine e_aload_n F dX2_become_17 rfl ?_
      refine e_aload_n F dX2_become_18 rfl ?_
      refine e_iconst F dX2_become_19 ?_
      refine e_iconst F dX2_become_20 ?_
      refine e_iload F dX2_become_21 rfl ?_
      refine e_callVV F u_X2_addTo (by rfl) (c_X2_addTo g1 hF1 hwh (by omega) (by omega) (by omega) hb) g1.1 rfl rfl w_ml_RX2_27 dX2_become_23 (by rfl) (Nat.le_of_ble_eq_true rfl) (by decide) (by omega) (fun _ _ _ h _ => False.elim h) (fun r_23 w_23 n_23 h_23 hn_23 => ?_)
      obtain ⟨rfl, en2, g2, e2⟩ := h_23
      rw [en2]
      have hF2 : w_23 f = some (FO wh) := by rw [e2 f hne1 hne2]; exact hF1
      refine e_iload_n F dX2_become_26 rfl ?_
      refine e_iconst F dX2_become_27 ?_
      refine e_icmp_lt F 40 dX2_become_28 (by decide) (⟨by omega, by omega⟩) (⟨by omega, by omega⟩) (fun c_28 => ?_) (fun c_28 => ?_)
      · exact absurd c_28 (by omega)
      · refine e_aload_n F dX2_become_31 rfl ?_
        refine e_aload_n F dX2_become_32 rfl ?_
        refine e_iconst F dX2_become_33 ?_
        refine e_iconst F dX2_become_34 ?_
        refine e_iload F dX2_become_35 rfl ?_
        refine e_callVV F u_X2_addTo (by rfl) (c_X2_addTo g2 hF2 hwh (by omega) (by omega) (by omega) hc) g2.1 rfl rfl w_ml_RX2_27 dX2_become_37 (by rfl) (Nat.le_of_ble_eq_true rfl) (by decide) (by omega) (fun _ _ _ h _ => False.elim h) (fun r_37 w_37 n_37 h_37 hn_37 => ?_)
        obtain ⟨rfl, en3, g3, e3⟩ := h_37
        rw [en3]
        have hF3 : w_37 f = some (FO wh) := by rw [e3 f hne1 hne2]; exact hF2
        refine e_iload_n F dX2_become_40 rfl ?_
        refine e_iconst F dX2_become_41 ?_
        refine e_icmp_lt F 54 dX2_become_42 (by decide) (⟨by omega, by omega⟩) (⟨by omega, by omega⟩) (fun c_42 => ?_) (fun c_42 => ?_)
        · exact absurd c_42 (by omega)
        · refine e_aload_n F dX2_become_45 rfl ?_
          refine e_aload_n F dX2_become_46 rfl ?_
          refine e_iconst F dX2_become_47 ?_
          refine e_iconst F dX2_become_48 ?_
          refine e_iload F dX2_become_49 rfl ?_
          refine e_callVV F u_X2_addTo (by rfl) (c_X2_addTo g3 hF3 hwh (by omega) (by omega) (by omega) hd) g3.1 rfl rfl w_ml_RX2_27 dX2_become_51 (by rfl) (Nat.le_of_ble_eq_true rfl) (by decide) (by omega) (fun _ _ _ h _ => False.elim h) (fun r_51 w_51 n_51 h_51 hn_51 => ?_)
          obtain ⟨rfl, en4, g4, e4⟩ := h_51
          rw [en4]
          have hF4 : w_51 f = some (FO wh) := by rw [e4 f hne1 hne2]; exact hF3
          refine e_vret F rfl (by omega) ?_ dX2_become_54
          refine ⟨rfl, rfl, g4.to (fun j j0 j1 => ?_), fun q q1 q2 => by rw [e4 q q1 q2, e3 q q1 q2, e2 q q1 q2, e1 q q1 q2, e0 q q1]⟩
          rcases (show j = 0 ∨ j = 1 ∨ j = 2 ∨ j = 3 ∨ j = 4 ∨ j = 5 ∨ j = 6 by omega) with rfl | rfl | rfl | rfl | rfl | rfl | rfl <;> simp [e_fu, bcm]
  · refine e_aload_n F dX2_become_0 rfl ?_
    refine e_callVV F u_X2_clear (by rfl) (c_X2_clear h0 hf) (by first | assumption | exact e_up_s | (rw [e_up_n (by first | assumption | omega)]; first | assumption | exact e_up_s | (rw [e_up_n (by first | assumption | omega)]; first | assumption | exact e_up_s | (rw [e_up_n (by first | assumption | omega)]; first | assumption | exact e_up_s))) | exact hD.1 | exact hD1.1 | exact hD2.1 | exact gD.1 | exact gD1.1 | exact gD2.1 | exact gQ.1 | exact hQ.1 | exact gS.1 | exact hS.1 | exact zD.1) rfl rfl w_ml_RX2_24 dX2_become_1 (by rfl) (Nat.le_of_ble_eq_true rfl) (by decide) (by omega) (fun _ _ _ h _ => False.elim h) (fun r_1 w_1 n_1 h_1 hn_1 => ?_)
    obtain ⟨rfl, en0, g0a, ⟨f1, g0b, g0c⟩, e0⟩ := h_1
    rw [en0]
    have hF0 : w_1 f = some (FO wh) := by rw [e0 f hne1]; exact hF
    have g0 : PL w_1 a (fun _ => 0) := ⟨g0a, ⟨f1, g0b, g0c⟩, ⟨t, by rw [e0 _ (by omega)]; exact ht⟩, fun j _ _ => by dsimp only; omega⟩
    refine e_aload_n F dX2_become_4 rfl ?_
    refine e_aload_n F dX2_become_5 rfl ?_
    refine e_iconst F dX2_become_6 ?_
    refine e_iconst F dX2_become_7 ?_
    refine e_iload_n F dX2_become_8 rfl ?_
    refine e_callVV F u_X2_addTo (by rfl) (c_X2_addTo g0 hF0 hwh (by omega) (by omega) (by omega) ha) g0.1 rfl rfl w_ml_RX2_27 dX2_become_9 (by rfl) (Nat.le_of_ble_eq_true rfl) (by decide) (by omega) (fun _ _ _ h _ => False.elim h) (fun r_9 w_9 n_9 h_9 hn_9 => ?_)
    obtain ⟨rfl, en1, g1, e1⟩ := h_9
    rw [en1]
    have hF1 : w_9 f = some (FO wh) := by rw [e1 f hne1 hne2]; exact hF0
    refine e_iload_n F dX2_become_12 rfl ?_
    refine e_iconst F dX2_become_13 ?_
    refine e_icmp_lt F 26 dX2_become_14 (by decide) (⟨by omega, by omega⟩) (⟨by omega, by omega⟩) (fun c_14 => ?_) (fun c_14 => ?_)
    · exact absurd c_14 (by omega)
    · refine e_aload_n F dX2_become_17 rfl ?_
      refine e_aload_n F dX2_become_18 rfl ?_
      refine e_iconst F dX2_become_19 ?_
      refine e_iconst F dX2_become_20 ?_
      refine e_iload F dX2_become_21 rfl ?_
      refine e_callVV F u_X2_addTo (by rfl) (c_X2_addTo g1 hF1 hwh (by omega) (by omega) (by omega) hb) g1.1 rfl rfl w_ml_RX2_27 dX2_become_23 (by rfl) (Nat.le_of_ble_eq_true rfl) (by decide) (by omega) (fun _ _ _ h _ => False.elim h) (fun r_23 w_23 n_23 h_23 hn_23 => ?_)
      obtain ⟨rfl, en2, g2, e2⟩ := h_23
      rw [en2]
      have hF2 : w_23 f = some (FO wh) := by rw [e2 f hne1 hne2]; exact hF1
      refine e_iload_n F dX2_become_26 rfl ?_
      refine e_iconst F dX2_become_27 ?_
      refine e_icmp_lt F 40 dX2_become_28 (by decide) (⟨by omega, by omega⟩) (⟨by omega, by omega⟩) (fun c_28 => ?_) (fun c_28 => ?_)
      · exact absurd c_28 (by omega)
      · refine e_aload_n F dX2_become_31 rfl ?_
        refine e_aload_n F dX2_become_32 rfl ?_
        refine e_iconst F dX2_become_33 ?_
        refine e_iconst F dX2_become_34 ?_
        refine e_iload F dX2_become_35 rfl ?_
        refine e_callVV F u_X2_addTo (by rfl) (c_X2_addTo g2 hF2 hwh (by omega) (by omega) (by omega) hc) g2.1 rfl rfl w_ml_RX2_27 dX2_become_37 (by rfl) (Nat.le_of_ble_eq_true rfl) (by decide) (by omega) (fun _ _ _ h _ => False.elim h) (fun r_37 w_37 n_37 h_37 hn_37 => ?_)
        obtain ⟨rfl, en3, g3, e3⟩ := h_37
        rw [en3]
        have hF3 : w_37 f = some (FO wh) := by rw [e3 f hne1 hne2]; exact hF2
        refine e_iload_n F dX2_become_40 rfl ?_
        refine e_iconst F dX2_become_41 ?_
        refine e_icmp_lt F 54 dX2_become_42 (by decide) (⟨by omega, by omega⟩) (⟨by omega, by omega⟩) (fun c_42 => ?_) (fun c_42 => ?_)
        · exact absurd c_42 (by omega)
        · refine e_aload_n F dX2_become_45 rfl ?_
          refine e_aload_n F dX2_become_46 rfl ?_
          refine e_iconst F dX2_become_47 ?_
          refine e_iconst F dX2_become_48 ?_
          refine e_iload F dX2_become_49 rfl ?_
          refine e_callVV F u_X2_addTo (by rfl) (c_X2_addTo g3 hF3 hwh (by omega) (by omega) (by omega) hd) g3.1 rfl rfl w_ml_RX2_27 dX2_become_51 (by rfl) (Nat.le_of_ble_eq_true rfl) (by decide) (by omega) (fun _ _ _ h _ => False.elim h) (fun r_51 w_51 n_51 h_51 hn_51 => ?_)
          obtain ⟨rfl, en4, g4, e4⟩ := h_51
          rw [en4]
          have hF4 : w_51 f = some (FO wh) := by rw [e4 f hne1 hne2]; exact hF3
          refine e_vret F rfl (by omega) ?_ dX2_become_54
          refine ⟨rfl, rfl, g4.to (fun j j0 j1 => ?_), fun q q1 q2 => by rw [e4 q q1 q2, e3 q q1 q2, e2 q q1 q2, e1 q q1 q2, e0 q q1]⟩
          rcases (show j = 0 ∨ j = 1 ∨ j = 2 ∨ j = 3 ∨ j = 4 ∨ j = 5 ∨ j = 6 by omega) with rfl | rfl | rfl | rfl | rfl | rfl | rfl <;> simp [e_fu, bcm]
  · refine e_aload_n F dX2_become_0 rfl ?_
    refine e_callVV F u_X2_clear (by rfl) (c_X2_clear h0 hf) (by first | assumption | exact e_up_s | (rw [e_up_n (by first | assumption | omega)]; first | assumption | exact e_up_s | (rw [e_up_n (by first | assumption | omega)]; first | assumption | exact e_up_s | (rw [e_up_n (by first | assumption | omega)]; first | assumption | exact e_up_s))) | exact hD.1 | exact hD1.1 | exact hD2.1 | exact gD.1 | exact gD1.1 | exact gD2.1 | exact gQ.1 | exact hQ.1 | exact gS.1 | exact hS.1 | exact zD.1) rfl rfl w_ml_RX2_24 dX2_become_1 (by rfl) (Nat.le_of_ble_eq_true rfl) (by decide) (by omega) (fun _ _ _ h _ => False.elim h) (fun r_1 w_1 n_1 h_1 hn_1 => ?_)
    obtain ⟨rfl, en0, g0a, ⟨f1, g0b, g0c⟩, e0⟩ := h_1
    rw [en0]
    have hF0 : w_1 f = some (FO wh) := by rw [e0 f hne1]; exact hF
    have g0 : PL w_1 a (fun _ => 0) := ⟨g0a, ⟨f1, g0b, g0c⟩, ⟨t, by rw [e0 _ (by omega)]; exact ht⟩, fun j _ _ => by dsimp only; omega⟩
    refine e_aload_n F dX2_become_4 rfl ?_
    refine e_aload_n F dX2_become_5 rfl ?_
    refine e_iconst F dX2_become_6 ?_
    refine e_iconst F dX2_become_7 ?_
    refine e_iload_n F dX2_become_8 rfl ?_
    refine e_callVV F u_X2_addTo (by rfl) (c_X2_addTo g0 hF0 hwh (by omega) (by omega) (by omega) ha) g0.1 rfl rfl w_ml_RX2_27 dX2_become_9 (by rfl) (Nat.le_of_ble_eq_true rfl) (by decide) (by omega) (fun _ _ _ h _ => False.elim h) (fun r_9 w_9 n_9 h_9 hn_9 => ?_)
    obtain ⟨rfl, en1, g1, e1⟩ := h_9
    rw [en1]
    have hF1 : w_9 f = some (FO wh) := by rw [e1 f hne1 hne2]; exact hF0
    refine e_iload_n F dX2_become_12 rfl ?_
    refine e_iconst F dX2_become_13 ?_
    refine e_icmp_lt F 26 dX2_become_14 (by decide) (⟨by omega, by omega⟩) (⟨by omega, by omega⟩) (fun c_14 => ?_) (fun c_14 => ?_)
    · exact absurd c_14 (by omega)
    · refine e_aload_n F dX2_become_17 rfl ?_
      refine e_aload_n F dX2_become_18 rfl ?_
      refine e_iconst F dX2_become_19 ?_
      refine e_iconst F dX2_become_20 ?_
      refine e_iload F dX2_become_21 rfl ?_
      refine e_callVV F u_X2_addTo (by rfl) (c_X2_addTo g1 hF1 hwh (by omega) (by omega) (by omega) hb) g1.1 rfl rfl w_ml_RX2_27 dX2_become_23 (by rfl) (Nat.le_of_ble_eq_true rfl) (by decide) (by omega) (fun _ _ _ h _ => False.elim h) (fun r_23 w_23 n_23 h_23 hn_23 => ?_)
      obtain ⟨rfl, en2, g2, e2⟩ := h_23
      rw [en2]
      have hF2 : w_23 f = some (FO wh) := by rw [e2 f hne1 hne2]; exact hF1
      refine e_iload_n F dX2_become_26 rfl ?_
      refine e_iconst F dX2_become_27 ?_
      refine e_icmp_lt F 40 dX2_become_28 (by decide) (⟨by omega, by omega⟩) (⟨by omega, by omega⟩) (fun c_28 => ?_) (fun c_28 => ?_)
      · exact absurd c_28 (by omega)
      · refine e_aload_n F dX2_become_31 rfl ?_
        refine e_aload_n F dX2_become_32 rfl ?_
        refine e_iconst F dX2_become_33 ?_
        refine e_iconst F dX2_become_34 ?_
        refine e_iload F dX2_become_35 rfl ?_
        refine e_callVV F u_X2_addTo (by rfl) (c_X2_addTo g2 hF2 hwh (by omega) (by omega) (by omega) hc) g2.1 rfl rfl w_ml_RX2_27 dX2_become_37 (by rfl) (Nat.le_of_ble_eq_true rfl) (by decide) (by omega) (fun _ _ _ h _ => False.elim h) (fun r_37 w_37 n_37 h_37 hn_37 => ?_)
        obtain ⟨rfl, en3, g3, e3⟩ := h_37
        rw [en3]
        have hF3 : w_37 f = some (FO wh) := by rw [e3 f hne1 hne2]; exact hF2
        refine e_iload_n F dX2_become_40 rfl ?_
        refine e_iconst F dX2_become_41 ?_
        refine e_icmp_lt F 54 dX2_become_42 (by decide) (⟨by omega, by omega⟩) (⟨by omega, by omega⟩) (fun c_42 => ?_) (fun c_42 => ?_)
        · exact absurd c_42 (by omega)
        · refine e_aload_n F dX2_become_45 rfl ?_
          refine e_aload_n F dX2_become_46 rfl ?_
          refine e_iconst F dX2_become_47 ?_
          refine e_iconst F dX2_become_48 ?_
          refine e_iload F dX2_become_49 rfl ?_
          refine e_callVV F u_X2_addTo (by rfl) (c_X2_addTo g3 hF3 hwh (by omega) (by omega) (by omega) hd) g3.1 rfl rfl w_ml_RX2_27 dX2_become_51 (by rfl) (Nat.le_of_ble_eq_true rfl) (by decide) (by omega) (fun _ _ _ h _ => False.elim h) (fun r_51 w_51 n_51 h_51 hn_51 => ?_)
          obtain ⟨rfl, en4, g4, e4⟩ := h_51
          rw [en4]
          have hF4 : w_51 f = some (FO wh) := by rw [e4 f hne1 hne2]; exact hF3
          refine e_vret F rfl (by omega) ?_ dX2_become_54
          refine ⟨rfl, rfl, g4.to (fun j j0 j1 => ?_), fun q q1 q2 => by rw [e4 q q1 q2, e3 q q1 q2, e2 q q1 q2, e1 q q1 q2, e0 q q1]⟩
          rcases (show j = 0 ∨ j = 1 ∨ j = 2 ∨ j = 3 ∨ j = 4 ∨ j = 5 ∨ j = 6 by omega) with rfl | rfl | rfl | rfl | rfl | rfl | rfl <;> simp [e_fu, bcm]
set_option maxHeartbeats 4000000 in
set_option maxRecDepth 100000 in
theorem c_X2_valueAt {K : e_K} {l : Launch} {w : e_W} {n : Nat} {a : Nat} {P : Int → Int} (hQ : PL w a P) {f wh : Nat} (hF : w f = some (FO wh)) (hwh : wh < 7) {x : Int} (hx : e_r x) : e_Met K l yX2_valueAt (Cond.code yX2_valueAt cX2_valueAt 5 (Option.some .int) :: e_TB) (1) (0) [.ref a, .ref f, .int (eI x)] w n (fun r w' n' => r = some (.int (eI (hz (pr wh) x P 7))) ∧ w' = w ∧ n' = n) (e_px0) := by
  refine e_ofV rfl (Nat.le_of_ble_eq_true rfl) ?_
  intro P9 E9 S9 M9 A9 B9 T9 C9 F hnm
  have hp := pr_rg wh hwh
  have ho9 := ho_rg wh hwh
  have hQ0 := hQ
  obtain ⟨h0, ⟨P9f, hf, hfP⟩, ⟨t, ht⟩, hr⟩ := hQ
  have lp : ∀ (N : Nat) (k : Nat), (7 - k) < N → k ≤ 7 → e_V K P9 l E9 (1) (0) S9 M9 A9 B9 T9 C9 5 (fun r w' n' => r = some (.int (eI (hz (pr wh) x P 7))) ∧ w' = w ∧ n' = n) (e_px0) 11 [(0, .ref a), (1, .ref f), (2, .int (eI x)), (3, .int (eI (hz (pr wh) x P k))), (4, .int (eI (6 - (k : Int))))] [] w n (0) := by
    intro N
    induction N with
    | zero => intro k hN; exact absurd hN (Nat.not_lt_zero _)
    | succ N ih =>
      intro k hN hk
      have hz9 := hz_rg (x := x) (P := P) (show 0 < pr wh by omega) k
      refine e_iload F dX2_valueAt_11 rfl ?_
      refine e_if_lt F 41 dX2_valueAt_13 (by decide) (⟨by omega, by omega⟩) (fun c_13 => ?_) (fun c_13 => ?_)
      ·
        obtain rfl : k = 7 := by omega
        refine e_iload_n F dX2_valueAt_41 rfl ?_
        refine e_iret F rfl (by omega) ?_ dX2_valueAt_42
        exact ⟨rfl, rfl, rfl⟩
      · refine e_aload_n F dX2_valueAt_16 rfl ?_
        refine e_iload_n F dX2_valueAt_17 rfl ?_
        refine e_i2l F dX2_valueAt_18 (⟨by omega, by omega⟩) ?_
        refine e_iload_n F dX2_valueAt_19 rfl ?_
        refine e_i2l F dX2_valueAt_20 (⟨by omega, by omega⟩) ?_
        refine e_lmul F dX2_valueAt_21 ?_
        refine e_aload_n F dX2_valueAt_22 rfl ?_
        refine e_get (ci := 2) (fi := 0) (q := (RX2, TX2, 2)) F (by first | assumption | exact e_up_s | (rw [e_up_n (by first | assumption | omega)]; first | assumption | exact e_up_s | (rw [e_up_n (by first | assumption | omega)]; first | assumption | exact e_up_s | (rw [e_up_n (by first | assumption | omega)]; first | assumption | exact e_up_s))) | exact hD.1 | exact hD1.1 | exact hD2.1 | exact gD.1 | exact gD1.1 | exact gD2.1 | exact gQ.1 | exact hQ.1 | exact gS.1 | exact hS.1 | exact zD.1) rfl (by decide) w_fl_RX2_9 (by rfl) dX2_valueAt_23 ?_
        refine e_iload F dX2_valueAt_26 rfl ?_
        refine e_iald F (by first | assumption | exact e_up_s | (rw [e_up_n (by first | assumption | omega)]; first | assumption | exact e_up_s | (rw [e_up_n (by first | assumption | omega)]; first | assumption | exact e_up_s | (rw [e_up_n (by first | assumption | omega)]; first | assumption | exact e_up_s))) | exact hD.1 | exact hD1.1 | exact hD2.1 | exact gD.1 | exact gD1.1 | exact gD2.1 | exact gQ.1 | exact hQ.1 | exact gS.1 | exact hS.1 | exact zD.1) (by omega) (by omega) (by first | decide | omega) dX2_valueAt_28 ?_
        have hr9 := hr (6 - (k : Int)) (by omega) (by omega)
        have hm := mul_rg3 hz9.1 (by omega) (b := x) (by omega) (by omega) (c := P (6 - (k : Int))) (by omega) (by omega)
        rw [hfP _ (by omega) (by omega)]
        refine e_i2l F dX2_valueAt_29 (⟨by omega, by omega⟩) ?_
        refine e_ladd F dX2_valueAt_30 ?_
        refine e_callVN F u_X1_modPrime (by rfl) (c_X1_modPrime hF hwh hm.2.1) (by first | assumption | exact e_up_s | (rw [e_up_n (by first | assumption | omega)]; first | assumption | exact e_up_s | (rw [e_up_n (by first | assumption | omega)]; first | assumption | exact e_up_s | (rw [e_up_n (by first | assumption | omega)]; first | assumption | exact e_up_s))) | exact hD.1 | exact hD1.1 | exact hD2.1 | exact gD.1 | exact gD1.1 | exact gD2.1 | exact gQ.1 | exact hQ.1 | exact gS.1 | exact hS.1 | exact zD.1) rfl rfl w_mn_RX2_18 dX2_valueAt_31 (by rfl) (Nat.le_of_ble_eq_true rfl) (by decide) (by omega) (fun _ _ _ h _ => False.elim h) (fun r_31 w_31 n_31 h_31 hn_31 => ?_)
        obtain ⟨rfl, ew_31, en_31⟩ := h_31
        rw [ew_31, en_31]
        refine e_istore_n F dX2_valueAt_34 (by decide) ?_
        refine e_iinc F dX2_valueAt_35 rfl (by decide) ?_
        refine e_goto F 11 dX2_valueAt_38 (by decide) ?_
        refine e_go (ih (k + 1) (by omega) (by omega)) ?_
        have e9 : (6 : Int) - ((k + 1 : Nat) : Int) = 6 - (k : Int) + (-1) := by omega
        rw [e9]
        exact (And.intro rfl (And.intro rfl (And.intro rfl (And.intro rfl (And.intro rfl (trivial))))))
  refine e_iconst F dX2_valueAt_0 ?_
  refine e_istore_n F dX2_valueAt_1 (by decide) ?_
  refine e_aload_n F dX2_valueAt_2 rfl ?_
  refine e_get (ci := 2) (fi := 0) (q := (RX2, TX2, 2)) F (by first | assumption | exact e_up_s | (rw [e_up_n (by first | assumption | omega)]; first | assumption | exact e_up_s | (rw [e_up_n (by first | assumption | omega)]; first | assumption | exact e_up_s | (rw [e_up_n (by first | assumption | omega)]; first | assumption | exact e_up_s))) | exact hD.1 | exact hD1.1 | exact hD2.1 | exact gD.1 | exact gD1.1 | exact gD2.1 | exact gQ.1 | exact hQ.1 | exact gS.1 | exact hS.1 | exact zD.1) rfl (by decide) w_fl_RX2_9 (by rfl) dX2_valueAt_3 ?_
  refine e_alenI F (by first | assumption | exact e_up_s | (rw [e_up_n (by first | assumption | omega)]; first | assumption | exact e_up_s | (rw [e_up_n (by first | assumption | omega)]; first | assumption | exact e_up_s | (rw [e_up_n (by first | assumption | omega)]; first | assumption | exact e_up_s))) | exact hD.1 | exact hD1.1 | exact hD2.1 | exact gD.1 | exact gD1.1 | exact gD2.1 | exact gQ.1 | exact hQ.1 | exact gS.1 | exact hS.1 | exact zD.1) dX2_valueAt_6 ?_
  refine e_iconst F dX2_valueAt_7 ?_
  refine e_isub F dX2_valueAt_8 ?_
  refine e_istore F dX2_valueAt_9 (by decide) ?_
  exact e_go (lp 8 0 (by omega) (by omega)) (And.intro rfl (And.intro rfl (And.intro rfl (And.intro rfl (And.intro rfl (trivial))))))
set_option maxHeartbeats 4000000 in
set_option maxRecDepth 100000 in
theorem c_X2_highest {K : e_K} {l : Launch} {w : e_W} {n : Nat} {a : Nat} {P : Int → Int} (hQ : PL w a P) : e_Met K l yX2_highest (Cond.code yX2_highest cX2_highest 2 (Option.some .int) :: e_TB) (0) (0) [.ref a] w n (fun r w' n' => r = some (.int (eI (hiK P 7))) ∧ w' = w ∧ n' = n) (e_px0) := by
  refine e_ofV rfl (Nat.le_of_ble_eq_true rfl) ?_
  intro P9 E9 S9 M9 A9 B9 T9 C9 F hnm
  have hQ0 := hQ
  obtain ⟨h0, ⟨P9f, hf, hfP⟩, ⟨t, ht⟩, hr⟩ := hQ
  have lp : ∀ (N : Nat) (k : Nat), k < N → (k ≤ 7 ∧ hiK P k = hiK P 7) → e_V K P9 l E9 (0) (0) S9 M9 A9 B9 T9 C9 2 (fun r w' n' => r = some (.int (eI (hiK P 7))) ∧ w' = w ∧ n' = n) (e_px0) 8 [(0, .ref a), (1, .int (eI ((k : Int) - 1)))] [] w n (0) := by
    intro N
    induction N with
    | zero => intro k hN; exact absurd hN (Nat.not_lt_zero _)
    | succ N ih =>
      intro k hN ⟨hk, hq⟩
      refine e_iload_n F dX2_highest_8 rfl ?_
      refine e_if_lt F 29 dX2_highest_9 (by decide) (⟨by omega, by omega⟩) (fun c_9 => ?_) (fun c_9 => ?_)
      · refine e_iconst F dX2_highest_29 ?_
        refine e_iret F rfl (by omega) ?_ dX2_highest_30
        refine ⟨?_, rfl, rfl⟩
        obtain rfl : k = 0 := by omega
        rw [← hq]
        rfl
      · refine e_aload_n F dX2_highest_12 rfl ?_
        refine e_get (ci := 2) (fi := 0) (q := (RX2, TX2, 2)) F (by first | assumption | exact e_up_s | (rw [e_up_n (by first | assumption | omega)]; first | assumption | exact e_up_s | (rw [e_up_n (by first | assumption | omega)]; first | assumption | exact e_up_s | (rw [e_up_n (by first | assumption | omega)]; first | assumption | exact e_up_s))) | exact hD.1 | exact hD1.1 | exact hD2.1 | exact gD.1 | exact gD1.1 | exact gD2.1 | exact gQ.1 | exact hQ.1 | exact gS.1 | exact hS.1 | exact zD.1) rfl (by decide) w_fl_RX2_9 (by rfl) dX2_highest_13 ?_
        refine e_iload_n F dX2_highest_16 rfl ?_
        refine e_iald F (by first | assumption | exact e_up_s | (rw [e_up_n (by first | assumption | omega)]; first | assumption | exact e_up_s | (rw [e_up_n (by first | assumption | omega)]; first | assumption | exact e_up_s | (rw [e_up_n (by first | assumption | omega)]; first | assumption | exact e_up_s))) | exact hD.1 | exact hD1.1 | exact hD2.1 | exact gD.1 | exact gD1.1 | exact gD2.1 | exact gQ.1 | exact hQ.1 | exact gS.1 | exact hS.1 | exact zD.1) (by omega) (by omega) (by first | decide | omega) dX2_highest_17 ?_
        rw [hfP _ (by omega) (by omega)]
        have hr9 := hr ((k : Int) - 1) (by omega) (by omega)
        refine e_if_eq F 23 dX2_highest_18 (by decide) (⟨by omega, by omega⟩) (fun c_18 => ?_) (fun c_18 => ?_)
        · refine e_iinc F dX2_highest_23 rfl (by decide) ?_
          refine e_goto F 8 dX2_highest_26 (by decide) ?_
          obtain ⟨k, rfl⟩ : ∃ z, k = z + 1 := ⟨k - 1, by omega⟩
          refine e_go (ih k (by omega) ⟨by omega, ?_⟩) ?_
          · rw [← hq]
            show _ = if P (k : Int) ≠ 0 then (k : Int) else hiK P k
            rw [if_neg]
            have e8 : ((k + 1 : Nat) : Int) - 1 = (k : Int) := by omega
            rw [e8] at c_18
            exact fun q => q c_18
          · have e9 : ((k + 1 : Nat) : Int) - 1 + (-1) = (k : Int) - 1 := by omega
            rw [e9]
            exact (And.intro rfl (And.intro rfl (trivial)))
        · refine e_iload_n F dX2_highest_21 rfl ?_
          refine e_iret F rfl (by omega) ?_ dX2_highest_22
          refine ⟨?_, rfl, rfl⟩
          obtain ⟨k, rfl⟩ : ∃ z, k = z + 1 := ⟨k - 1, by omega⟩
          have e8 : ((k + 1 : Nat) : Int) - 1 = (k : Int) := by omega
          rw [e8] at c_18 ⊢
          rw [← hq]
          show _ = some (Value.int (eI (if P (k : Int) ≠ 0 then (k : Int) else hiK P k)))
          rw [if_pos c_18]
  refine e_aload_n F dX2_highest_0 rfl ?_
  refine e_get (ci := 2) (fi := 0) (q := (RX2, TX2, 2)) F (by first | assumption | exact e_up_s | (rw [e_up_n (by first | assumption | omega)]; first | assumption | exact e_up_s | (rw [e_up_n (by first | assumption | omega)]; first | assumption | exact e_up_s | (rw [e_up_n (by first | assumption | omega)]; first | assumption | exact e_up_s))) | exact hD.1 | exact hD1.1 | exact hD2.1 | exact gD.1 | exact gD1.1 | exact gD2.1 | exact gQ.1 | exact hQ.1 | exact gS.1 | exact hS.1 | exact zD.1) rfl (by decide) w_fl_RX2_9 (by rfl) dX2_highest_1 ?_
  refine e_alenI F (by first | assumption | exact e_up_s | (rw [e_up_n (by first | assumption | omega)]; first | assumption | exact e_up_s | (rw [e_up_n (by first | assumption | omega)]; first | assumption | exact e_up_s | (rw [e_up_n (by first | assumption | omega)]; first | assumption | exact e_up_s))) | exact hD.1 | exact hD1.1 | exact hD2.1 | exact gD.1 | exact gD1.1 | exact gD2.1 | exact gQ.1 | exact hQ.1 | exact gS.1 | exact hS.1 | exact zD.1) dX2_highest_4 ?_
  refine e_iconst F dX2_highest_5 ?_
  refine e_isub F dX2_highest_6 ?_
  refine e_istore_n F dX2_highest_7 (by decide) ?_
  exact e_go (lp 8 7 (by omega) ⟨by omega, rfl⟩) (And.intro rfl (And.intro rfl (trivial)))
theorem fu_ite {u : Int → Int} {i v : Int} {D : Int → Int} (hv : v = D i) (gp : ∀ j, 0 ≤ j → j < i → u j = D j) : ∀ j, 0 ≤ j → j < i + 1 → e_fu u i v j = D j := by
  intro j j0 j1
  unfold e_fu
  split
  · rename_i q; rw [q, hv]
  · exact gp j j0 (by omega)
set_option maxHeartbeats 4000000 in
set_option maxRecDepth 100000 in
theorem c_X2_makeTerm {K : e_K} {l : Launch} {w : e_W} {n : Nat} {a : Nat} {P : Int → Int} (hQ : PL w a P) {f wh : Nat} (hF : w f = some (FO wh)) (hwh : wh < 7) {set h : Int} (h1 : 0 ≤ set) (h2 : set < 2147483648) (h3 : 1 ≤ h) (h4 : h ≤ 7) : e_Met K l yX2_makeTerm (Cond.code yX2_makeTerm cX2_makeTerm 8 (Option.some .int) :: e_TB) (2) (0) [.ref a, .ref f, .int (eI set), .int (eI h)] w n (fun r w' n' => r = some (.int (eI (wpr (pr wh) h h set (ho wh).toNat))) ∧ n' = n ∧ w' a = some (PO a) ∧ (∃ u, w' (a + 2) = some (e_ia 7 u) ∧ ∀ j, 0 ≤ j → j < 7 → u j = tm (pr wh) h set (ho wh).toNat j) ∧ ∀ q, q ≠ a + 2 → w' q = w q) (e_px0) := by
  refine e_ofV rfl (Nat.le_of_ble_eq_true rfl) ?_
  intro P9 E9 S9 M9 A9 B9 T9 C9 F hnm
  have hp := pr_rg wh hwh
  have ho9 := ho_rg wh hwh
  have hQ0 := hQ
  obtain ⟨h0, ⟨P9f, hf, hfP⟩, ⟨t, ht⟩, hr⟩ := hQ
  have hne2 : f ≠ a + 2 := FO_ne hF ht
  have li : ∀ (N : Nat) (k : Nat) (kk : Int) (wl : e_W) (u : Int → Int), (kk + 1).toNat < N → ((k : Int) < 7 ∧ -1 ≤ kk ∧ kk ≤ 6 ∧ wl a = some (PO a) ∧ wl (a + 2) = some (e_ia 7 u) ∧ (∀ q, q ≠ a + 2 → wl q = w q) ∧ (∀ j, 0 ≤ j → j < 7 → u j = if kk < j then tmS (pr wh) ((k : Int) + 1) (tm (pr wh) h set k) j else tm (pr wh) h set k j) ∧ (∀ (wl2 : e_W) (u2 : Int → Int), wl2 a = some (PO a) → wl2 (a + 2) = some (e_ia 7 u2) → (∀ q, q ≠ a + 2 → wl2 q = w q) → (∀ j, 0 ≤ j → j < 7 → u2 j = tmS (pr wh) ((k : Int) + 1) (tm (pr wh) h set k) j) → e_V K P9 l E9 (2) (0) S9 M9 A9 B9 T9 C9 8 (fun r w' n' => r = some (.int (eI (wpr (pr wh) h h set (ho wh).toNat))) ∧ n' = n ∧ w' a = some (PO a) ∧ (∃ u, w' (a + 2) = some (e_ia 7 u) ∧ ∀ j, 0 ≤ j → j < 7 → u j = tm (pr wh) h set (ho wh).toNat j) ∧ ∀ q, q ≠ a + 2 → w' q = w q) (e_px0) 133 [(0, .ref a), (1, .ref f), (2, .int (eI set)), (3, .int (eI h)), (4, .int (eI (wpr (pr wh) h h set k))), (5, .int (eI ((k : Int) + 1)))] [] wl2 n (0))) → e_V K P9 l E9 (2) (0) S9 M9 A9 B9 T9 C9 8 (fun r w' n' => r = some (.int (eI (wpr (pr wh) h h set (ho wh).toNat))) ∧ n' = n ∧ w' a = some (PO a) ∧ (∃ u, w' (a + 2) = some (e_ia 7 u) ∧ ∀ j, 0 ≤ j → j < 7 → u j = tm (pr wh) h set (ho wh).toNat j) ∧ ∀ q, q ≠ a + 2 → w' q = w q) (e_px0) 75 [(0, .ref a), (1, .ref f), (2, .int (eI set)), (3, .int (eI h)), (4, .int (eI (wpr (pr wh) h h set k))), (5, .int (eI ((k : Int) + 1))), (6, .int (eI kk))] [] wl n (0) := by
    intro N
    induction N with
    | zero => intro k kk wl u hN; exact absurd hN (Nat.not_lt_zero _)
    | succ N ih =>
      intro k kk wl u hN ⟨h0k, h1, h2, g0, gu, gF, gp, cont⟩
      have hF9 : wl f = some (FO wh) := by rw [gF f hne2]; exact hF
      have htr : ∀ c, 0 ≤ tm (pr wh) h set k c ∧ tm (pr wh) h set k c < pr wh := fun c => tm_rg (by omega) k c
      have ht1 := htr kk
      have ht2 := htr (kk - 1)
      refine e_iload F dX2_makeTerm_75 rfl ?_
      refine e_if_lt F 133 dX2_makeTerm_77 (by decide) (⟨by omega, by omega⟩) (fun c_77 => ?_) (fun c_77 => ?_)
      · exact e_go (cont wl u g0 gu gF (fun j j0 j1 => by rw [gp j j0 j1, if_pos (by omega)])) (And.intro rfl (And.intro rfl (And.intro rfl (And.intro rfl (And.intro rfl (And.intro rfl (trivial)))))))
      · refine e_iload F dX2_makeTerm_80 rfl ?_
        refine e_if_le F 97 dX2_makeTerm_82 (by decide) (⟨by omega, by omega⟩) (fun c_82 => ?_) (fun c_82 => ?_)
        ·
          have e5 : (if 0 < kk then tm (pr wh) h set k (kk - 1) else 0) = 0 := if_neg (by omega)
          have hm := mul_rg3 (a := (k : Int) + 1) (by omega) (by omega) (b := tm (pr wh) h set k kk) (by omega) (by omega) (c := 0) (by omega) (by omega)
          refine e_iconst F dX2_makeTerm_97 ?_
          refine e_istore F dX2_makeTerm_98 (by decide) ?_
          refine e_aload_n F dX2_makeTerm_100 rfl ?_
          refine e_get (ci := 2) (fi := 1) (q := (RX2, TX2, 2)) F (by first | assumption | exact e_up_s | (rw [e_up_n (by first | assumption | omega)]; first | assumption | exact e_up_s | (rw [e_up_n (by first | assumption | omega)]; first | assumption | exact e_up_s | (rw [e_up_n (by first | assumption | omega)]; first | assumption | exact e_up_s))) | exact hD.1 | exact hD1.1 | exact hD2.1 | exact gD.1 | exact gD1.1 | exact gD2.1 | exact gQ.1 | exact hQ.1 | exact gS.1 | exact hS.1 | exact zD.1) rfl (by decide) w_fl_RX2_15 (by rfl) dX2_makeTerm_101 ?_
          refine e_iload F dX2_makeTerm_104 rfl ?_
          refine e_aload_n F dX2_makeTerm_106 rfl ?_
          refine e_iload F dX2_makeTerm_107 rfl ?_
          refine e_i2l F dX2_makeTerm_109 (⟨by omega, by omega⟩) ?_
          refine e_iload F dX2_makeTerm_110 rfl ?_
          refine e_i2l F dX2_makeTerm_112 (⟨by omega, by omega⟩) ?_
          refine e_aload_n F dX2_makeTerm_113 rfl ?_
          refine e_get (ci := 2) (fi := 1) (q := (RX2, TX2, 2)) F (by first | assumption | exact e_up_s | (rw [e_up_n (by first | assumption | omega)]; first | assumption | exact e_up_s | (rw [e_up_n (by first | assumption | omega)]; first | assumption | exact e_up_s | (rw [e_up_n (by first | assumption | omega)]; first | assumption | exact e_up_s))) | exact hD.1 | exact hD1.1 | exact hD2.1 | exact gD.1 | exact gD1.1 | exact gD2.1 | exact gQ.1 | exact hQ.1 | exact gS.1 | exact hS.1 | exact zD.1) rfl (by decide) w_fl_RX2_15 (by rfl) dX2_makeTerm_114 ?_
          refine e_iload F dX2_makeTerm_117 rfl ?_
          refine e_iald F gu (by omega) (by omega) (by first | decide | omega) dX2_makeTerm_119 ?_
          rw [gp kk (by omega) (by omega), if_neg (by omega)]
          refine e_i2l F dX2_makeTerm_120 (⟨by omega, by omega⟩) ?_
          refine e_lmul F dX2_makeTerm_121 ?_
          refine e_lsub F dX2_makeTerm_122 ?_
          refine e_callVN F u_X1_modPrime (by rfl) (c_X1_modPrime hF9 hwh hm.2.2) (by first | assumption | exact e_up_s | (rw [e_up_n (by first | assumption | omega)]; first | assumption | exact e_up_s | (rw [e_up_n (by first | assumption | omega)]; first | assumption | exact e_up_s | (rw [e_up_n (by first | assumption | omega)]; first | assumption | exact e_up_s))) | exact hD.1 | exact hD1.1 | exact hD2.1 | exact gD.1 | exact gD1.1 | exact gD2.1 | exact gQ.1 | exact hQ.1 | exact gS.1 | exact hS.1 | exact zD.1) rfl rfl w_mn_RX2_18 dX2_makeTerm_123 (by rfl) (Nat.le_of_ble_eq_true rfl) (by decide) (by omega) (fun _ _ _ h _ => False.elim h) (fun r_123 w_123 n_123 h_123 hn_123 => ?_)
          obtain ⟨rfl, ew_123, en_123⟩ := h_123
          rw [ew_123, en_123]
          have e7 : tmS (pr wh) ((k : Int) + 1) (tm (pr wh) h set k) kk = ((if 0 < kk then tm (pr wh) h set k (kk - 1) else 0) - ((k : Int) + 1) * tm (pr wh) h set k kk) % pr wh := rfl
          rw [e5] at e7
          rw [← e7]
          refine e_iast F gu (by omega) (by omega) (by first | decide | omega) dX2_makeTerm_126 ?_
          refine e_iinc F dX2_makeTerm_127 rfl (by decide) ?_
          refine e_goto F 75 dX2_makeTerm_130 (by decide) ?_
          have e9 : kk + (-1) = kk - 1 := by omega
          rw [e9]
          refine e_go (ih k (kk - 1) (e_up wl (a + 2) (e_ia 7 (e_fu u kk (tmS (pr wh) ((k : Int) + 1) (tm (pr wh) h set k) kk)))) (e_fu u kk (tmS (pr wh) ((k : Int) + 1) (tm (pr wh) h set k) kk)) (by omega) ⟨h0k, by omega, by omega, by rw [e_up_n (by omega)]; exact g0, e_up_s, fun q q1 => by rw [e_up_n q1]; exact gF q q1, fun j j0 j1 => ?_, cont⟩) (And.intro rfl (And.intro rfl (And.intro rfl (And.intro rfl (And.intro rfl (And.intro rfl (And.intro rfl (trivial))))))))
          unfold e_fu
          split
          · rename_i q; rw [if_pos (by omega), q]
          · rw [gp j j0 j1]
            by_cases q : kk < j
            · rw [if_pos q, if_pos (by omega)]
            · rw [if_neg q, if_neg (by omega)]
        ·
          have e5 : (if 0 < kk then tm (pr wh) h set k (kk - 1) else 0) = tm (pr wh) h set k (kk - 1) := if_pos (by omega)
          have hm := mul_rg3 (a := (k : Int) + 1) (by omega) (by omega) (b := tm (pr wh) h set k kk) (by omega) (by omega) (c := tm (pr wh) h set k (kk - 1)) (by omega) (by omega)
          refine e_aload_n F dX2_makeTerm_85 rfl ?_
          refine e_get (ci := 2) (fi := 1) (q := (RX2, TX2, 2)) F (by first | assumption | exact e_up_s | (rw [e_up_n (by first | assumption | omega)]; first | assumption | exact e_up_s | (rw [e_up_n (by first | assumption | omega)]; first | assumption | exact e_up_s | (rw [e_up_n (by first | assumption | omega)]; first | assumption | exact e_up_s))) | exact hD.1 | exact hD1.1 | exact hD2.1 | exact gD.1 | exact gD1.1 | exact gD2.1 | exact gQ.1 | exact hQ.1 | exact gS.1 | exact hS.1 | exact zD.1) rfl (by decide) w_fl_RX2_15 (by rfl) dX2_makeTerm_86 ?_
          refine e_iload F dX2_makeTerm_89 rfl ?_
          refine e_iconst F dX2_makeTerm_91 ?_
          refine e_isub F dX2_makeTerm_92 ?_
          refine e_iald F gu (by omega) (by omega) (by first | decide | omega) dX2_makeTerm_93 ?_
          rw [gp (kk - 1) (by omega) (by omega), if_neg (by omega)]
          refine e_goto F 98 dX2_makeTerm_94 (by decide) ?_
          refine e_istore F dX2_makeTerm_98 (by decide) ?_
          refine e_aload_n F dX2_makeTerm_100 rfl ?_
          refine e_get (ci := 2) (fi := 1) (q := (RX2, TX2, 2)) F (by first | assumption | exact e_up_s | (rw [e_up_n (by first | assumption | omega)]; first | assumption | exact e_up_s | (rw [e_up_n (by first | assumption | omega)]; first | assumption | exact e_up_s | (rw [e_up_n (by first | assumption | omega)]; first | assumption | exact e_up_s))) | exact hD.1 | exact hD1.1 | exact hD2.1 | exact gD.1 | exact gD1.1 | exact gD2.1 | exact gQ.1 | exact hQ.1 | exact gS.1 | exact hS.1 | exact zD.1) rfl (by decide) w_fl_RX2_15 (by rfl) dX2_makeTerm_101 ?_
          refine e_iload F dX2_makeTerm_104 rfl ?_
          refine e_aload_n F dX2_makeTerm_106 rfl ?_
          refine e_iload F dX2_makeTerm_107 rfl ?_
          refine e_i2l F dX2_makeTerm_109 (⟨by omega, by omega⟩) ?_
          refine e_iload F dX2_makeTerm_110 rfl ?_
          refine e_i2l F dX2_makeTerm_112 (⟨by omega, by omega⟩) ?_
          refine e_aload_n F dX2_makeTerm_113 rfl ?_
          refine e_get (ci := 2) (fi := 1) (q := (RX2, TX2, 2)) F (by first | assumption | exact e_up_s | (rw [e_up_n (by first | assumption | omega)]; first | assumption | exact e_up_s | (rw [e_up_n (by first | assumption | omega)]; first | assumption | exact e_up_s | (rw [e_up_n (by first | assumption | omega)]; first | assumption | exact e_up_s))) | exact hD.1 | exact hD1.1 | exact hD2.1 | exact gD.1 | exact gD1.1 | exact gD2.1 | exact gQ.1 | exact hQ.1 | exact gS.1 | exact hS.1 | exact zD.1) rfl (by decide) w_fl_RX2_15 (by rfl) dX2_makeTerm_114 ?_
          refine e_iload F dX2_makeTerm_117 rfl ?_
          refine e_iald F gu (by omega) (by omega) (by first | decide | omega) dX2_makeTerm_119 ?_
          rw [gp kk (by omega) (by omega), if_neg (by omega)]
          refine e_i2l F dX2_makeTerm_120 (⟨by omega, by omega⟩) ?_
          refine e_lmul F dX2_makeTerm_121 ?_
          refine e_lsub F dX2_makeTerm_122 ?_
          refine e_callVN F u_X1_modPrime (by rfl) (c_X1_modPrime hF9 hwh hm.2.2) (by first | assumption | exact e_up_s | (rw [e_up_n (by first | assumption | omega)]; first | assumption | exact e_up_s | (rw [e_up_n (by first | assumption | omega)]; first | assumption | exact e_up_s | (rw [e_up_n (by first | assumption | omega)]; first | assumption | exact e_up_s))) | exact hD.1 | exact hD1.1 | exact hD2.1 | exact gD.1 | exact gD1.1 | exact gD2.1 | exact gQ.1 | exact hQ.1 | exact gS.1 | exact hS.1 | exact zD.1) rfl rfl w_mn_RX2_18 dX2_makeTerm_123 (by rfl) (Nat.le_of_ble_eq_true rfl) (by decide) (by omega) (fun _ _ _ h _ => False.elim h) (fun r_123 w_123 n_123 h_123 hn_123 => ?_)
          obtain ⟨rfl, ew_123, en_123⟩ := h_123
          rw [ew_123, en_123]
          have e7 : tmS (pr wh) ((k : Int) + 1) (tm (pr wh) h set k) kk = ((if 0 < kk then tm (pr wh) h set k (kk - 1) else 0) - ((k : Int) + 1) * tm (pr wh) h set k kk) % pr wh := rfl
          rw [e5] at e7
          rw [← e7]
          refine e_iast F gu (by omega) (by omega) (by first | decide | omega) dX2_makeTerm_126 ?_
          refine e_iinc F dX2_makeTerm_127 rfl (by decide) ?_
          refine e_goto F 75 dX2_makeTerm_130 (by decide) ?_
          have e9 : kk + (-1) = kk - 1 := by omega
          rw [e9]
          refine e_go (ih k (kk - 1) (e_up wl (a + 2) (e_ia 7 (e_fu u kk (tmS (pr wh) ((k : Int) + 1) (tm (pr wh) h set k) kk)))) (e_fu u kk (tmS (pr wh) ((k : Int) + 1) (tm (pr wh) h set k) kk)) (by omega) ⟨h0k, by omega, by omega, by rw [e_up_n (by omega)]; exact g0, e_up_s, fun q q1 => by rw [e_up_n q1]; exact gF q q1, fun j j0 j1 => ?_, cont⟩) (And.intro rfl (And.intro rfl (And.intro rfl (And.intro rfl (And.intro rfl (And.intro rfl (And.intro rfl (trivial))))))))
          unfold e_fu
          split
          · rename_i q; rw [if_pos (by omega), q]
          · rw [gp j j0 j1]
            by_cases q : kk < j
            · rw [if_pos q, if_pos (by omega)]
            · rw [if_neg q, if_neg (by omega)]
  have lo : ∀ (N : Nat) (k : Nat) (wl : e_W) (u : Int → Int), (7 - k) < N → (k ≤ (ho wh).toNat ∧ wl a = some (PO a) ∧ wl (a + 2) = some (e_ia 7 u) ∧ (∀ q, q ≠ a + 2 → wl q = w q) ∧ (∀ j, 0 ≤ j → j < 7 → u j = tm (pr wh) h set k j)) → e_V K P9 l E9 (2) (0) S9 M9 A9 B9 T9 C9 8 (fun r w' n' => r = some (.int (eI (wpr (pr wh) h h set (ho wh).toNat))) ∧ n' = n ∧ w' a = some (PO a) ∧ (∃ u, w' (a + 2) = some (e_ia 7 u) ∧ ∀ j, 0 ≤ j → j < 7 → u j = tm (pr wh) h set (ho wh).toNat j) ∧ ∀ q, q ≠ a + 2 → w' q = w q) (e_px0) 42 [(0, .ref a), (1, .ref f), (2, .int (eI set)), (3, .int (eI h)), (4, .int (eI (wpr (pr wh) h h set k))), (5, .int (eI ((k : Int) + 1)))] [] wl n (0) := by
    intro N
    induction N with
    | zero => intro k wl u hN; exact absurd hN (Nat.not_lt_zero _)
    | succ N ih =>
      intro k wl u hN ⟨hk, g0, gu, gF, gp⟩
      have hF9 : wl f = some (FO wh) := by rw [gF f hne2]; exact hF
      have hwp := wpr_rg (x := h) (h := h) (set := set) (show 2 ≤ pr wh by omega) k
      refine e_iload F dX2_makeTerm_42 rfl ?_
      refine e_aload_n F dX2_makeTerm_44 rfl ?_
      refine e_getN (ci := 1) (fi := 4) (q := (RX1, TX1, 5)) F (by first | assumption | exact e_up_s | (rw [e_up_n (by first | assumption | omega)]; first | assumption | exact e_up_s | (rw [e_up_n (by first | assumption | omega)]; first | assumption | exact e_up_s | (rw [e_up_n (by first | assumption | omega)]; first | assumption | exact e_up_s))) | exact hD.1 | exact hD1.1 | exact hD2.1 | exact gD.1 | exact gD1.1 | exact gD2.1 | exact gQ.1 | exact hQ.1 | exact gS.1 | exact hS.1 | exact zD.1) rfl (by decide) w_fn_RX2_31 (by rfl) dX2_makeTerm_45 ?_
      refine e_icmp_gt F 154 dX2_makeTerm_48 (by decide) (⟨by omega, by omega⟩) (⟨by omega, by omega⟩) (fun c_48 => ?_) (fun c_48 => ?_)
      ·
        obtain rfl : k = (ho wh).toNat := by omega
        refine e_iload F dX2_makeTerm_154 rfl ?_
        refine e_iret F rfl (by omega) ?_ dX2_makeTerm_156
        exact ⟨rfl, rfl, g0, ⟨u, gu, gp⟩, gF⟩
      · refine e_iload F dX2_makeTerm_51 rfl ?_
        refine e_iload_n F dX2_makeTerm_53 rfl ?_
        refine e_icmp_eq F 148 dX2_makeTerm_54 (by decide) (⟨by omega, by omega⟩) (⟨by omega, by omega⟩) (fun c_54 => ?_) (fun c_54 => ?_)
        ·
          have q1 : wpr (pr wh) h h set (k + 1) = wpr (pr wh) h h set k := if_neg (fun q => q.1 c_54)
          have q2 : tm (pr wh) h set (k + 1) = tm (pr wh) h set k := if_neg (fun q => q.1 c_54)
          have hwl : ∃ z, z = wl := ⟨_, rfl⟩
          refine e_iinc F dX2_makeTerm_148 rfl (by decide) ?_
          refine e_goto F 42 dX2_makeTerm_151 (by decide) ?_
          first
          | (refine e_go (ih (k + 1) wl2 u2 (by omega) ⟨by omega, z0, zu, zF, fun j j0 j1 => by rw [q2]; exact zp j j0 j1⟩) ?_; rw [q1]; exact (And.intro rfl (And.intro rfl (And.intro rfl (And.intro rfl (And.intro rfl (And.intro rfl (trivial))))))))
          | (refine e_go (ih (k + 1) wl u (by omega) ⟨by omega, g0, gu, gF, fun j j0 j1 => by rw [q2]; exact gp j j0 j1⟩) ?_; rw [q1]; exact (And.intro rfl (And.intro rfl (And.intro rfl (And.intro rfl (And.intro rfl (And.intro rfl (trivial))))))))
        · refine e_iload_n F dX2_makeTerm_57 rfl ?_
          refine e_iload F dX2_makeTerm_58 rfl ?_
          refine e_callSN F u_X3_isIn (by rfl) (c_X3_isIn h1 h2 (h := (k : Int) + 1) (by omega) (by omega)) w_mn_RX2_35 dX2_makeTerm_60 (by rfl) (Nat.le_of_ble_eq_true rfl) (by decide) (by omega) (fun _ _ _ h _ => False.elim h) (fun r_60 w_60 n_60 h_60 hn_60 => ?_)
          obtain ⟨rfl, ew_60, en_60⟩ := h_60
          rw [ew_60, en_60]
          refine e_if_eq F 148 dX2_makeTerm_63 (by decide) (b01_r _) (fun c_63 => ?_) (fun c_63 => ?_)
          ·
            rw [b01_0] at c_63
            have q1 : wpr (pr wh) h h set (k + 1) = wpr (pr wh) h h set k := if_neg (fun q => c_63 q.2)
            have q2 : tm (pr wh) h set (k + 1) = tm (pr wh) h set k := if_neg (fun q => c_63 q.2)
            have hwl : ∃ z, z = wl := ⟨_, rfl⟩
            refine e_iinc F dX2_makeTerm_148 rfl (by decide) ?_
            refine e_goto F 42 dX2_makeTerm_151 (by decide) ?_
            first
            | (refine e_go (ih (k + 1) wl2 u2 (by omega) ⟨by omega, z0, zu, zF, fun j j0 j1 => by rw [q2]; exact zp j j0 j1⟩) ?_; rw [q1]; exact (And.intro rfl (And.intro rfl (And.intro rfl (And.intro rfl (And.intro rfl (And.intro rfl (trivial))))))))
            | (refine e_go (ih (k + 1) wl u (by omega) ⟨by omega, g0, gu, gF, fun j j0 j1 => by rw [q2]; exact gp j j0 j1⟩) ?_; rw [q1]; exact (And.intro rfl (And.intro rfl (And.intro rfl (And.intro rfl (And.intro rfl (And.intro rfl (trivial))))))))
          ·
            rw [b01_0, Classical.not_not] at c_63
            have q1 : wpr (pr wh) h h set (k + 1) = (wpr (pr wh) h h set k * (h - ((k : Int) + 1))) % pr wh := if_pos ⟨c_54, c_63⟩
            have q2 : tm (pr wh) h set (k + 1) = tmS (pr wh) ((k : Int) + 1) (tm (pr wh) h set k) := if_pos ⟨c_54, c_63⟩
            refine e_aload_n F dX2_makeTerm_66 rfl ?_
            refine e_get (ci := 2) (fi := 1) (q := (RX2, TX2, 2)) F (by first | assumption | exact e_up_s | (rw [e_up_n (by first | assumption | omega)]; first | assumption | exact e_up_s | (rw [e_up_n (by first | assumption | omega)]; first | assumption | exact e_up_s | (rw [e_up_n (by first | assumption | omega)]; first | assumption | exact e_up_s))) | exact hD.1 | exact hD1.1 | exact hD2.1 | exact gD.1 | exact gD1.1 | exact gD2.1 | exact gQ.1 | exact hQ.1 | exact gS.1 | exact hS.1 | exact zD.1) rfl (by decide) w_fl_RX2_15 (by rfl) dX2_makeTerm_67 ?_
            refine e_alenI F (by first | assumption | exact e_up_s | (rw [e_up_n (by first | assumption | omega)]; first | assumption | exact e_up_s | (rw [e_up_n (by first | assumption | omega)]; first | assumption | exact e_up_s | (rw [e_up_n (by first | assumption | omega)]; first | assumption | exact e_up_s))) | exact hD.1 | exact hD1.1 | exact hD2.1 | exact gD.1 | exact gD1.1 | exact gD2.1 | exact gQ.1 | exact hQ.1 | exact gS.1 | exact hS.1 | exact zD.1) dX2_makeTerm_70 ?_
            refine e_iconst F dX2_makeTerm_71 ?_
            refine e_isub F dX2_makeTerm_72 ?_
            refine e_istore F dX2_makeTerm_73 (by decide) ?_
            refine e_go (li 8 k 6 wl u (by omega) ⟨by omega, by omega, by omega, g0, gu, gF, fun j j0 j1 => by rw [gp j j0 j1, if_neg (by omega)], fun wl2 u2 z0 zu zF zp => ?_⟩) (And.intro rfl (And.intro rfl (And.intro rfl (And.intro rfl (And.intro rfl (And.intro rfl (And.intro rfl (trivial))))))))
            have hF8 : wl2 f = some (FO wh) := by rw [zF f hne2]; exact hF
            refine e_aload_n F dX2_makeTerm_133 rfl ?_
            refine e_iload F dX2_makeTerm_134 rfl ?_
            refine e_i2l F dX2_makeTerm_136 (⟨by omega, by omega⟩) ?_
            refine e_iload_n F dX2_makeTerm_137 rfl ?_
            refine e_iload F dX2_makeTerm_138 rfl ?_
            refine e_isub F dX2_makeTerm_140 ?_
            refine e_i2l F dX2_makeTerm_141 (⟨by omega, by omega⟩) ?_
            refine e_lmul F dX2_makeTerm_142 ?_
            refine e_callVN F u_X1_modPrime (by rfl) (c_X1_modPrime hF8 hwh (mul_rg2 (by omega) (by omega) (by omega) (by omega))) (by first | assumption | exact e_up_s | (rw [e_up_n (by first | assumption | omega)]; first | assumption | exact e_up_s | (rw [e_up_n (by first | assumption | omega)]; first | assumption | exact e_up_s | (rw [e_up_n (by first | assumption | omega)]; first | assumption | exact e_up_s))) | exact hD.1 | exact hD1.1 | exact hD2.1 | exact gD.1 | exact gD1.1 | exact gD2.1 | exact gQ.1 | exact hQ.1 | exact gS.1 | exact hS.1 | exact zD.1) rfl rfl w_mn_RX2_18 dX2_makeTerm_143 (by rfl) (Nat.le_of_ble_eq_true rfl) (by decide) (by omega) (fun _ _ _ h _ => False.elim h) (fun r_143 w_143 n_143 h_143 hn_143 => ?_)
            obtain ⟨rfl, ew_143, en_143⟩ := h_143
            rw [ew_143, en_143]
            refine e_istore F dX2_makeTerm_146 (by decide) ?_
            refine e_iinc F dX2_makeTerm_148 rfl (by decide) ?_
            refine e_goto F 42 dX2_makeTerm_151 (by decide) ?_
            first
            | (refine e_go (ih (k + 1) wl2 u2 (by omega) ⟨by omega, z0, zu, zF, fun j j0 j1 => by rw [q2]; exact zp j j0 j1⟩) ?_; rw [q1]; exact (And.intro rfl (And.intro rfl (And.intro rfl (And.intro rfl (And.intro rfl (And.intro rfl (trivial))))))))
            | (refine e_go (ih (k + 1) wl u (by omega) ⟨by omega, g0, gu, gF, fun j j0 j1 => by rw [q2]; exact gp j j0 j1⟩) ?_; rw [q1]; exact (And.intro rfl (And.intro rfl (And.intro rfl (And.intro rfl (And.intro rfl (And.intro rfl (trivial))))))))
  have lf : ∀ (N : Nat) (i : Int) (wl : e_W) (u : Int → Int), (7 - i).toNat < N → (0 ≤ i ∧ i ≤ 7 ∧ wl a = some (PO a) ∧ wl (a + 2) = some (e_ia 7 u) ∧ (∀ q, q ≠ a + 2 → wl q = w q) ∧ (∀ j, 0 ≤ j → j < i → u j = if j = 0 then 1 else 0)) → e_V K P9 l E9 (2) (0) S9 M9 A9 B9 T9 C9 8 (fun r w' n' => r = some (.int (eI (wpr (pr wh) h h set (ho wh).toNat))) ∧ n' = n ∧ w' a = some (PO a) ∧ (∃ u, w' (a + 2) = some (e_ia 7 u) ∧ ∀ j, 0 ≤ j → j < 7 → u j = tm (pr wh) h set (ho wh).toNat j) ∧ ∀ q, q ≠ a + 2 → w' q = w q) (e_px0) 6 [(0, .ref a), (1, .ref f), (2, .int (eI set)), (3, .int (eI h)), (4, .int (eI 1)), (5, .int (eI i))] [] wl n (0) := by
    intro N
    induction N with
    | zero => intro i wl u hN; exact absurd hN (Nat.not_lt_zero _)
    | succ N ih =>
      intro i wl u hN ⟨h91, h92, g0, gu, gF, gp⟩
      refine e_iload F dX2_makeTerm_6 rfl ?_
      refine e_aload_n F dX2_makeTerm_8 rfl ?_
      refine e_get (ci := 2) (fi := 1) (q := (RX2, TX2, 2)) F (by first | assumption | exact e_up_s | (rw [e_up_n (by first | assumption | omega)]; first | assumption | exact e_up_s | (rw [e_up_n (by first | assumption | omega)]; first | assumption | exact e_up_s | (rw [e_up_n (by first | assumption | omega)]; first | assumption | exact e_up_s))) | exact hD.1 | exact hD1.1 | exact hD2.1 | exact gD.1 | exact gD1.1 | exact gD2.1 | exact gQ.1 | exact hQ.1 | exact gS.1 | exact hS.1 | exact zD.1) rfl (by decide) w_fl_RX2_15 (by rfl) dX2_makeTerm_9 ?_
      refine e_alenI F (by first | assumption | exact e_up_s | (rw [e_up_n (by first | assumption | omega)]; first | assumption | exact e_up_s | (rw [e_up_n (by first | assumption | omega)]; first | assumption | exact e_up_s | (rw [e_up_n (by first | assumption | omega)]; first | assumption | exact e_up_s))) | exact hD.1 | exact hD1.1 | exact hD2.1 | exact gD.1 | exact gD1.1 | exact gD2.1 | exact gQ.1 | exact hQ.1 | exact gS.1 | exact hS.1 | exact zD.1) dX2_makeTerm_12 ?_
      refine e_icmp_ge F 39 dX2_makeTerm_13 (by decide) (⟨by omega, by omega⟩) (⟨by omega, by omega⟩) (fun c_13 => ?_) (fun c_13 => ?_)
      · refine e_iconst F dX2_makeTerm_39 ?_
        refine e_istore F dX2_makeTerm_40 (by decide) ?_
        exact e_go (lo 8 0 wl u (by omega) ⟨by omega, g0, gu, gF, fun j j0 j1 => gp j j0 (by omega)⟩) (And.intro rfl (And.intro rfl (And.intro rfl (And.intro rfl (And.intro rfl (And.intro rfl (trivial)))))))
      · refine e_aload_n F dX2_makeTerm_16 rfl ?_
        refine e_get (ci := 2) (fi := 1) (q := (RX2, TX2, 2)) F (by first | assumption | exact e_up_s | (rw [e_up_n (by first | assumption | omega)]; first | assumption | exact e_up_s | (rw [e_up_n (by first | assumption | omega)]; first | assumption | exact e_up_s | (rw [e_up_n (by first | assumption | omega)]; first | assumption | exact e_up_s))) | exact hD.1 | exact hD1.1 | exact hD2.1 | exact gD.1 | exact gD1.1 | exact gD2.1 | exact gQ.1 | exact hQ.1 | exact gS.1 | exact hS.1 | exact zD.1) rfl (by decide) w_fl_RX2_15 (by rfl) dX2_makeTerm_17 ?_
        refine e_iload F dX2_makeTerm_20 rfl ?_
        refine e_iload F dX2_makeTerm_22 rfl ?_
        refine e_if_ne F 31 dX2_makeTerm_24 (by decide) (⟨by omega, by omega⟩) (fun c_24 => ?_) (fun c_24 => ?_)
        · refine e_iconst F dX2_makeTerm_31 ?_
          refine e_iast F gu (by omega) (by omega) (by first | decide | omega) dX2_makeTerm_32 ?_
          refine e_iinc F dX2_makeTerm_33 rfl (by decide) ?_
          refine e_goto F 6 dX2_makeTerm_36 (by decide) ?_
          first
          | (exact e_go (ih (i + 1) (e_up wl (a + 2) (e_ia 7 (e_fu u i 0))) (e_fu u i 0) (by omega) ⟨by omega, by omega, by rw [e_up_n (by omega)]; exact g0, e_up_s, fun q q1 => by rw [e_up_n q1]; exact gF q q1, fun j j0 j1 => fu_ite (by rw [if_neg (by omega)]) gp j j0 j1⟩) (And.intro rfl (And.intro rfl (And.intro rfl (And.intro rfl (And.intro rfl (And.intro rfl (trivial))))))))
          | (exact e_go (ih (i + 1) (e_up wl (a + 2) (e_ia 7 (e_fu u i 1))) (e_fu u i 1) (by omega) ⟨by omega, by omega, by rw [e_up_n (by omega)]; exact g0, e_up_s, fun q q1 => by rw [e_up_n q1]; exact gF q q1, fun j j0 j1 => fu_ite (by rw [if_pos (by omega)]) gp j j0 j1⟩) (And.intro rfl (And.intro rfl (And.intro rfl (And.intro rfl (And.intro rfl (And.intro rfl (trivial))))))))
        · refine e_iconst F dX2_makeTerm_27 ?_
          refine e_goto F 32 dX2_makeTerm_28 (by decide) ?_
          refine e_iast F gu (by omega) (by omega) (by first | decide | omega) dX2_makeTerm_32 ?_
          refine e_iinc F dX2_makeTerm_33 rfl (by decide) ?_
          refine e_goto F 6 dX2_makeTerm_36 (by decide) ?_
          first
          | (exact e_go (ih (i + 1) (e_up wl (a + 2) (e_ia 7 (e_fu u i 0))) (e_fu u i 0) (by omega) ⟨by omega, by omega, by rw [e_up_n (by omega)]; exact g0, e_up_s, fun q q1 => by rw [e_up_n q1]; exact gF q q1, fun j j0 j1 => fu_ite (by rw [if_neg (by omega)]) gp j j0 j1⟩) (And.intro rfl (And.intro rfl (And.intro rfl (And.intro rfl (And.intro rfl (And.intro rfl (trivial))))))))
          | (exact e_go (ih (i + 1) (e_up wl (a + 2) (e_ia 7 (e_fu u i 1))) (e_fu u i 1) (by omega) ⟨by omega, by omega, by rw [e_up_n (by omega)]; exact g0, e_up_s, fun q q1 => by rw [e_up_n q1]; exact gF q q1, fun j j0 j1 => fu_ite (by rw [if_pos (by omega)]) gp j j0 j1⟩) (And.intro rfl (And.intro rfl (And.intro rfl (And.intro rfl (And.intro rfl (And.intro rfl (trivial))))))))
  refine e_iconst F dX2_makeTerm_0 ?_
  refine e_istore F dX2_makeTerm_1 (by decide) ?_
  refine e_iconst F dX2_makeTerm_3 ?_
  refine e_istore F dX2_makeTerm_4 (by decide) ?_
  exact e_go (lf 8 0 w t (by omega) ⟨by omega, by omega, h0, ht, fun q _ => rfl, fun j _ _ => by omega⟩) (And.intro rfl (And.intro rfl (And.intro rfl (And.intro rfl (And.intro rfl (And.intro rfl (trivial)))))))
