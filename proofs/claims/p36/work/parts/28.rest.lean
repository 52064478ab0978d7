/-! Secretshares: handOn, prime, and what is asked of all -/
theorem mul7_rg {a h : Int} (ha : e_r a) (h0 : 0 ≤ h) (h1 : h ≤ 7) : -15032385536 ≤ a * h ∧ a * h ≤ 15032385536 := by
  obtain ⟨a1, a2⟩ := ha
  rcases (show h = 0 ∨ h = 1 ∨ h = 2 ∨ h = 3 ∨ h = 4 ∨ h = 5 ∨ h = 6 ∨ h = 7 by omega) with rfl | rfl | rfl | rfl | rfl | rfl | rfl | rfl <;> omega
theorem hoP_no {wh : Nat} {set : Int} {A : Int → Int} {g a b : Int} {k : Nat} (h : ¬ hs set ((k : Int) + 1)) : hoP wh set A g a b (k + 1) = hoP wh set A g a b k := by
  funext c
  unfold hoP
  have e : hoK wh set A a b c (k + 1) = hoK wh set A a b c k := if_neg h
  rw [e]
theorem hoP_yes {wh : Nat} {set : Int} {A : Int → Int} {g a b : Int} {k : Nat} (h : hs set ((k : Int) + 1)) {c : Int} (hc : c ≤ g) : hoP wh set A g a b (k + 1) c = (hoP wh set A g a b k c + wgt wh set ((k : Int) + 1) 0 * (if c = 0 then A ((k : Int) + 1) else (a * ((k : Int) + 1) + b * c) % pr wh)) % pr wh := by
  unfold hoP
  rw [if_pos hc, if_pos hc]
  exact if_pos h
theorem clearD {w w' : e_W} {d : Nat} {s : SD} (hD : DS w d s) (z0 : w' d = some (DO d 0 0 0)) (z1 : ∃ f', w' (d + 1) = some (e_ia 8 f') ∧ ∀ j, 0 ≤ j → j < 8 → f' j = -1) (zF : ∀ q, q ≠ d → q ≠ d + 1 → w' q = w q) : DS w' d SD0 := by
  obtain ⟨q0, ⟨qf, qf1, qf2⟩, ⟨qg, qg1, qg2⟩, qw⟩ := hD
  obtain ⟨zf, z1, z2⟩ := z1
  exact ⟨z0, ⟨zf, z1, fun j j0 j1 => z2 j (by omega) j1⟩, ⟨qg, by rw [zF _ (by omega) (by omega)]; exact qg1, fun j j0 j1 => absurd j1 (show ¬ j < 0 by omega)⟩, Or.inl rfl, by decide, by decide, fun j _ _ => by show -1 ≤ (-1 : Int) ∧ (-1 : Int) < 1000003; decide, fun j j0 j1 => absurd j1 (show ¬ j < 0 by omega)⟩
def odV (wh : Nat) (s : SD) (c : Int) : Int := if c = 0 then (if s.fl = 0 then -1 else s.dg) else if c = 1 then bc (st7 s.A) else if c = 2 then st7 s.A else if c = 3 then b01 (0 < s.sc) else if c = 4 then b01 (il wh (st7 s.A) s.A s.fl s.dg) else (if fs7 s.A s.dg = 0 then -1 else tl wh (fs7 s.A s.dg) s.A 0)
def wyV (wh : Nat) (s : SD) (a c : Int) : Int := if (s.fl = 1 ∧ thr s.A a) ∧ pbK (pr wh) s.dg.toNat ≤ 125 then (if 0 ≤ s.dg - bc a then pbK (pr wh) (s.dg - bc a).toNat else b01 (il wh a s.A s.fl s.dg ∧ tl wh a s.A 0 = c % pr wh)) else -9
def tsK (set : Int) (A : Int → Int) : Nat → Int
  | 0 => 0
  | k + 1 => if hs set ((k : Int) + 1) then tsK set A k + A ((k : Int) + 1) else tsK set A k
def msK (b : Int) (A : Int → Int) : Nat → Int × Int
  | 0 => (0, 0)
  | k + 1 => if A ((k : Int) + 1) ≠ -1 ∧ ((msK b A k).1 = 0 ∨ (if b = 0 then (msK b A k).2 < A ((k : Int) + 1) else A ((k : Int) + 1) < (msK b A k).2)) then ((k : Int) + 1, A ((k : Int) + 1)) else msK b A k
theorem msK_rg (b : Int) {A : Int → Int} (hA : ∀ j, 1 ≤ j → j < 8 → -1 ≤ A j ∧ A j < 1000003) (k : Nat) (hk : k ≤ 7) : (0 ≤ (msK b A k).1 ∧ (msK b A k).1 ≤ 7) ∧ (-1 ≤ (msK b A k).2 ∧ (msK b A k).2 < 1000003) := by
  induction k with
  | zero => unfold msK; decide
  | succ k ih =>
    have h1 := hA ((k : Int) + 1) (by omega) (by omega)
    have h2 := ih (by omega)
    have h3 : msK b A (k + 1) = ((k : Int) + 1, A ((k : Int) + 1)) ∨ msK b A (k + 1) = msK b A k := by
      rw [msK]
      by_cases q : A ((k : Int) + 1) ≠ -1 ∧ ((msK b A k).1 = 0 ∨ (if b = 0 then (msK b A k).2 < A ((k : Int) + 1) else A ((k : Int) + 1) < (msK b A k).2))
      · exact Or.inl (if_pos q)
      · exact Or.inr (if_neg q)
    rcases h3 with h3 | h3 <;> rw [h3]
    · exact ⟨⟨by show 0 ≤ (k : Int) + 1; omega, by show (k : Int) + 1 ≤ 7; omega⟩, h1⟩
    · exact h2
def smK (s1 s2 : SD) : Nat → Bool
  | 0 => decide (s1.dg = s2.dg)
  | k + 1 => smK s1 s2 k && decide (s1.A ((k : Int) + 1) = s2.A ((k : Int) + 1))
def smV (wh : Nat) (s1 s2 : SD) : Int := if s1.fl = 0 ∨ s2.fl = 0 then b01 (s1.fl = 0 ∧ s2.fl = 0) else b01 (smK s1 s2 (ho wh).toNat = true)
def hsV (wh : Nat) (kn : Int) (D : Nat → SD) (a : Int) : Int := if a = 0 then (wh : Int) else if a = 1 then pr wh else if a = 2 then gr wh else if a = 3 then bs wh else if a = 4 then ho wh else if a = 5 then fdK D 6 else kn
def snV (wh : Nat) (D : Nat → SD) : Int := b01 (tl wh (fl wh) (fun _ => 1) 0 = 1 ∧ fss wh D 6 = true)
def itF (f : Nat → Int) (b : Int) : Nat → Int
  | 0 => b
  | k + 1 => itF f b k * 31 + f k
def dg1 (wh : Nat) (s : SD) (b : Int) (k : Nat) : Int := itF (fun c => odV wh s c) b k
def dg2 (wh : Nat) (s : SD) (b : Int) (k : Nat) : Int := itF (fun h => s.A ((h : Int) + 1)) (dg1 wh s b 4) k
def dg3 (wh : Nat) (s : SD) (b : Int) (k : Nat) : Int := itF (fun c => if (c : Int) < s.sc then s.B c else -1) (dg2 wh s b (ho wh).toNat) k
def dgI (wh : Nat) (kn : Int) (D : Nat → SD) : Nat → Int
  | 0 => itF (fun a => hsV wh kn D a) 7977 7
  | i + 1 => dg3 wh (D i) (dgI wh kn D i) 4
def dgV (wh : Nat) (kn : Int) (D : Nat → SD) : Int := dgI wh kn D 6 * 31 + snV wh D
set_option maxHeartbeats 4000000 in
set_option maxRecDepth 100000 in
theorem c_X3_handOn {K : e_K} {l : Launch} {w : e_W} {n : Nat} {x wh : Nat} {kn : Int} {D : Nat → SD} (hC : CW w x wh kn D) {i : Int} (hi : e_r i) {u : Int} (hu : e_r u) {t : Int} (ht : e_r t) {g : Int} (hg : e_r g) {a : Int} (ha : e_r a) {b : Int} (hb : e_r b) : e_Met K l yX3_handOn (Cond.code yX3_handOn cX3_handOn 12 (Option.some .int) :: e_TB) (7) (4) [.ref x, .int (eI i), .int (eI u), .int (eI t), .int (eI g), .int (eI a), .int (eI b)] w n (fun r w' n' => (((0 ≤ i ∧ i < 6) ∧ (0 ≤ t ∧ t < 6)) ∧ (1 ≤ u ∧ u ≤ fl wh) ∧ (0 ≤ g ∧ g ≤ 3)) ∧ r = some (.int (eI ((haQ wh D i.toNat u t.toNat g a b).1))) ∧ n' = n ∧ CW w' x wh (kn) ((haQ wh D i.toNat u t.toNat g a b).2) ∧ FR w w' x) (pxd w (¬ ((0 ≤ i ∧ i < 6) ∧ (0 ≤ t ∧ t < 6))) (((0 ≤ i ∧ i < 6) ∧ (0 ≤ t ∧ t < 6)) ∧ ¬ ((1 ≤ u ∧ u ≤ fl wh) ∧ (0 ≤ g ∧ g ≤ 3)))) := by
  refine e_ofV rfl (Nat.le_of_ble_eq_true rfl) ?_
  intro P9 E9 S9 M9 A9 B9 T9 C9 F hnm
  have hC0 := hC
  have hDA := hC.2.2.2.2.1
  obtain ⟨hX, hF, hwh, ⟨P0, hQ⟩, ⟨ga, hga, hgj⟩, hDs, s0, hS⟩ := hC
  have hp := pr_rg wh hwh
  have ho9 := ho_rg wh hwh
  have hg9 := gr_rg wh hwh
  have hf9 := fl_rg wh hwh
  refine e_aload_n F dX3_handOn_0 rfl ?_
  refine e_iload_n F dX3_handOn_1 rfl ?_
  refine e_callVV F u_X3_dealAt (by rfl) (c_X3_dealAt hX hDA (i := i) hi) hX rfl rfl w_ml_RX3_94 dX3_handOn_2 (by rfl) (Nat.le_of_ble_eq_true rfl) (by decide) (by omega) (fun E w2 n2 h _ => ⟨Or.inl ⟨h.1, by have q := h.2.1; omega⟩, h.2.2⟩) (fun r_2 w_2 n_2 h_2 hn_2 => ?_)
  obtain ⟨hi1, rfl, ew_2, en_2⟩ := h_2
  rw [ew_2, en_2]
  obtain ⟨hD1, hW1⟩ := hDs i.toNat (by omega)
  refine e_astore F dX3_handOn_5 (by decide) ?_
  refine e_aload_n F dX3_handOn_7 rfl ?_
  refine e_iload_n F dX3_handOn_8 rfl ?_
  refine e_callVV F u_X3_dealAt (by rfl) (c_X3_dealAt hX hDA (i := t) ht) hX rfl rfl w_ml_RX3_94 dX3_handOn_9 (by rfl) (Nat.le_of_ble_eq_true rfl) (by decide) (by omega) (fun E w2 n2 h _ => ⟨Or.inl ⟨h.1, by have q := h.2.1; omega⟩, h.2.2⟩) (fun r_9 w_9 n_9 h_9 hn_9 => ?_)
  obtain ⟨hi2, rfl, ew_9, en_9⟩ := h_9
  rw [ew_9, en_9]
  obtain ⟨hD2, hW2⟩ := hDs t.toNat (by omega)
  refine e_astore F dX3_handOn_12 (by decide) ?_
  refine e_aload_n F dX3_handOn_14 rfl ?_
  refine e_iload_n F dX3_handOn_15 rfl ?_
  refine e_callVV F u_X3_requireSet (by rfl) (c_X3_requireSet hX hF hwh (s9 := u) hu) hX rfl rfl w_ml_RX3_80 dX3_handOn_16 (by rfl) (Nat.le_of_ble_eq_true rfl) (by decide) (by omega) (fun E w2 n2 h _ => ⟨Or.inr ⟨h.1, by have q := h.2.1; omega⟩, h.2.2⟩) (fun r_16 w_16 n_16 h_16 hn_16 => ?_)
  obtain ⟨hrs, rfl, ew_16, en_16⟩ := h_16
  rw [ew_16, en_16]
  refine e_iload F dX3_handOn_19 rfl ?_
  refine e_callSS F u_X3_requireToldDegree (by rfl) (c_X3_requireToldDegree (g := g) hg) w_ml_RX3_98 dX3_handOn_21 (by rfl) (Nat.le_of_ble_eq_true rfl) (by decide) (by omega) (fun E w2 n2 h _ => ⟨Or.inr ⟨h.1, by have q := h.2.1; omega⟩, h.2.2⟩) (fun r_21 w_21 n_21 h_21 hn_21 => ?_)
  obtain ⟨hrd, rfl, ew_21, en_21⟩ := h_21
  rw [ew_21, en_21]
  refine e_aload F dX3_handOn_24 rfl ?_
  refine e_iload_n F dX3_handOn_26 rfl ?_
  refine e_callVN F u_X0_isEnough (by rfl) (c_X0_isEnough hD1 (set := u) (by omega) (by omega)) (by first | assumption | exact e_up_s | (rw [e_up_n (by first | assumption | omega)]; first | assumption | exact e_up_s | (rw [e_up_n (by first | assumption | omega)]; first | assumption | exact e_up_s | (rw [e_up_n (by first | assumption | omega)]; first | assumption | exact e_up_s))) | exact hD.1 | exact hD1.1 | exact hD2.1 | exact gD.1 | exact gD1.1 | exact gD2.1 | exact gQ.1 | exact hQ.1 | exact gS.1 | exact hS.1 | exact zD.1) rfl rfl w_mn_RX3_170 dX3_handOn_27 (by rfl) (Nat.le_of_ble_eq_true rfl) (by decide) (by omega) (fun _ _ _ h _ => False.elim h) (fun r_27 w_27 n_27 h_27 hn_27 => ?_)
  obtain ⟨rfl, ew_27, en_27⟩ := h_27
  rw [ew_27, en_27]
  refine e_if_ne F 36 dX3_handOn_30 (by decide) (b01_r _) (fun c_30 => ?_) (fun c_30 => ?_)
  ·
    rw [ne_eq, b01_0, Classical.not_not] at c_30
    refine e_aload_n F dX3_handOn_36 rfl ?_
    refine e_get (ci := 3) (fi := 1) (q := (RX3, TX3, 5)) F (by first | assumption | exact e_up_s | (rw [e_up_n (by first | assumption | omega)]; first | assumption | exact e_up_s | (rw [e_up_n (by first | assumption | omega)]; first | assumption | exact e_up_s | (rw [e_up_n (by first | assumption | omega)]; first | assumption | exact e_up_s))) | exact hD.1 | exact hD1.1 | exact hD2.1 | exact gD.1 | exact gD1.1 | exact gD2.1 | exact gQ.1 | exact hQ.1 | exact gS.1 | exact hS.1 | exact zD.1) rfl (by decide) w_fl_RX3_19 (by rfl) dX3_handOn_37 ?_
    obtain ⟨q0, ⟨qf, qf1, qf2⟩, ⟨qt, qt1⟩, qr⟩ := hQ
    refine e_callVN F u_X2_clear (by rfl) (c_X2_clear q0 qf1) q0 rfl rfl w_mn_RX3_173 dX3_handOn_40 (by rfl) (Nat.le_of_ble_eq_true rfl) (by decide) (by omega) (fun _ _ _ h _ => False.elim h) (fun r_40 w_40 n_40 h_40 hn_40 => ?_)
    obtain ⟨rfl, en_40, v0, ⟨vf, v1, v2⟩, vF⟩ := h_40
    rw [en_40]
    have vQ : PL w_40 (x + 2) (hoP wh u (D i.toNat).A g a b 0) := ⟨v0, ⟨vf, v1, fun j j0 j1 => by rw [v2 j j0 j1]; unfold hoP; split <;> rfl⟩, ⟨qt, by rw [vF _ (by omega)]; exact qt1⟩, fun j j0 j1 => by unfold hoP; split <;> (first | (show 0 ≤ (0 : Int) ∧ (0 : Int) < 1000003; decide))⟩
    have lp : ∀ (N k : Nat) (wl : e_W), 7 - k < N → ((k : Int) ≤ ho wh ∧ PL wl (x + 2) (hoP wh u (D i.toNat).A g a b k) ∧ PF w wl (x + 2)) → e_V K P9 l E9 (7) (4) S9 M9 A9 B9 T9 C9 12 (fun r w' n' => (((0 ≤ i ∧ i < 6) ∧ (0 ≤ t ∧ t < 6)) ∧ (1 ≤ u ∧ u ≤ fl wh) ∧ (0 ≤ g ∧ g ≤ 3)) ∧ r = some (.int (eI ((haQ wh D i.toNat u t.toNat g a b).1))) ∧ n' = n ∧ CW w' x wh (kn) ((haQ wh D i.toNat u t.toNat g a b).2) ∧ FR w w' x) (pxd w (¬ ((0 ≤ i ∧ i < 6) ∧ (0 ≤ t ∧ t < 6))) (((0 ≤ i ∧ i < 6) ∧ (0 ≤ t ∧ t < 6)) ∧ ¬ ((1 ≤ u ∧ u ≤ fl wh) ∧ (0 ≤ g ∧ g ≤ 3)))) 46 [(0, .ref x), (2, .int (eI u)), (4, .int (eI g)), (5, .int (eI a)), (6, .int (eI b)), (7, .ref (x + 6 + 3 * i.toNat)), (8, .ref (x + 6 + 3 * t.toNat)), (9, .int (eI ((k : Int) + 1)))] [] wl n ((0 + 1 + 1 + 1 + 1 + 0 + 0)) := by
      intro N
      induction N with
      | zero => intro k wl hN; exact absurd hN (Nat.not_lt_zero _)
      | succ N ih =>
        intro k wl hN ⟨hk, gQ, gF⟩
        have hres := hC0.px ⟨⟨_, gQ⟩, gF⟩
        have gX := hres.1.1
        have gFO := hres.1.2.1
        have gD1 := (hres.1.2.2.2.2.2.1 i.toNat (by omega)).1
        have l154 : (k : Int) < ho wh → ∀ wl2 : e_W, PL wl2 (x + 2) (hoP wh u (D i.toNat).A g a b (k + 1)) → PF w wl2 (x + 2) → e_V K P9 l E9 (7) (4) S9 M9 A9 B9 T9 C9 12 (fun r w' n' => (((0 ≤ i ∧ i < 6) ∧ (0 ≤ t ∧ t < 6)) ∧ (1 ≤ u ∧ u ≤ fl wh) ∧ (0 ≤ g ∧ g ≤ 3)) ∧ r = some (.int (eI ((haQ wh D i.toNat u t.toNat g a b).1))) ∧ n' = n ∧ CW w' x wh (kn) ((haQ wh D i.toNat u t.toNat g a b).2) ∧ FR w w' x) (pxd w (¬ ((0 ≤ i ∧ i < 6) ∧ (0 ≤ t ∧ t < 6))) (((0 ≤ i ∧ i < 6) ∧ (0 ≤ t ∧ t < 6)) ∧ ¬ ((1 ≤ u ∧ u ≤ fl wh) ∧ (0 ≤ g ∧ g ≤ 3)))) 154 [(0, .ref x), (2, .int (eI u)), (4, .int (eI g)), (5, .int (eI a)), (6, .int (eI b)), (7, .ref (x + 6 + 3 * i.toNat)), (8, .ref (x + 6 + 3 * t.toNat)), (9, .int (eI ((k : Int) + 1)))] [] wl2 n ((0 + 1 + 1 + 1 + 1 + 0 + 0)) := by
          intro hk2 wl2 zQ zF
          refine e_iinc F dX3_handOn_154 rfl (by decide) ?_
          refine e_goto F 46 dX3_handOn_157 (by decide) ?_
          exact e_go (ih (k + 1) wl2 (by omega) ⟨by omega, zQ, zF⟩) (And.intro rfl (And.intro rfl (And.intro rfl (And.intro rfl (And.intro rfl (And.intro rfl (And.intro rfl (And.intro rfl (trivial)))))))))
        have hwg : 0 ≤ (wgt wh u ((k : Int) + 1) 0) ∧ (wgt wh u ((k : Int) + 1) 0) < pr wh := emod_rg _ hwh
        have lq : hs u ((k : Int) + 1) → (k : Int) < ho wh → ∀ (N2 : Nat) (j : Int) (wl2 : e_W), (8 - j).toNat < N2 → (1 ≤ j ∧ j ≤ g + 1 ∧ PL wl2 (x + 2) (fun c => if c < j then hoP wh u (D i.toNat).A g a b (k + 1) c else hoP wh u (D i.toNat).A g a b k c) ∧ PF w wl2 (x + 2)) → e_V K P9 l E9 (7) (4) S9 M9 A9 B9 T9 C9 12 (fun r w' n' => (((0 ≤ i ∧ i < 6) ∧ (0 ≤ t ∧ t < 6)) ∧ (1 ≤ u ∧ u ≤ fl wh) ∧ (0 ≤ g ∧ g ≤ 3)) ∧ r = some (.int (eI ((haQ wh D i.toNat u t.toNat g a b).1))) ∧ n' = n ∧ CW w' x wh (kn) ((haQ wh D i.toNat u t.toNat g a b).2) ∧ FR w w' x) (pxd w (¬ ((0 ≤ i ∧ i < 6) ∧ (0 ≤ t ∧ t < 6))) (((0 ≤ i ∧ i < 6) ∧ (0 ≤ t ∧ t < 6)) ∧ ¬ ((1 ≤ u ∧ u ≤ fl wh) ∧ (0 ≤ g ∧ g ≤ 3)))) 104 [(0, .ref x), (2, .int (eI u)), (4, .int (eI g)), (5, .int (eI a)), (6, .int (eI b)), (7, .ref (x + 6 + 3 * i.toNat)), (8, .ref (x + 6 + 3 * t.toNat)), (9, .int (eI ((k : Int) + 1))), (10, .int (eI (wgt wh u ((k : Int) + 1) 0))), (11, .int (eI j))] [] wl2 n ((0 + 1 + 1 + 1 + 1 + 0 + 0)) := by
          intro hmem hk2 N2
          induction N2 with
          | zero => intro j wl2 hN2; exact absurd hN2 (Nat.not_lt_zero _)
          | succ N2 ih2 =>
            intro j wl2 hN2 ⟨k1, k2, zQ, zF⟩
            have hres2 := hC0.px ⟨⟨_, zQ⟩, zF⟩
            have yX := hres2.1.1
            have yFO := hres2.1.2.1
            have b1 := mul7_rg (a := a) (h := (k : Int) + 1) ha (by omega) (by omega)
            have b2 := mul7_rg (a := b) (h := j) hb (by omega) (by omega)
            have hu := emod_rg (a * ((k : Int) + 1) + b * j) hwh
            refine e_iload F dX3_handOn_104 rfl ?_
            refine e_iload F dX3_handOn_106 rfl ?_
            refine e_icmp_gt F 154 dX3_handOn_108 (by decide) (⟨by omega, by omega⟩) (⟨by omega, by omega⟩) (fun c_108 => ?_) (fun c_108 => ?_)
            · obtain rfl : j = g + 1 := by omega
              exact e_go (l154 hk2 wl2 (zQ.to (fun c c0 c1 => by
                try dsimp only
                by_cases e8 : c < g + 1
                · rw [if_pos e8]
                · rw [if_neg e8]
                  unfold hoP
                  rw [if_neg (show ¬ c ≤ g by omega), if_neg (show ¬ c ≤ g by omega)])) zF) (And.intro rfl (And.intro rfl (And.intro rfl (And.intro rfl (And.intro rfl (And.intro rfl (And.intro rfl (And.intro rfl (trivial)))))))))
            · refine e_aload_n F dX3_handOn_111 rfl ?_
              refine e_get (ci := 3) (fi := 1) (q := (RX3, TX3, 5)) F (by first | assumption | exact e_up_s | (rw [e_up_n (by first | assumption | omega)]; first | assumption | exact e_up_s | (rw [e_up_n (by first | assumption | omega)]; first | assumption | exact e_up_s | (rw [e_up_n (by first | assumption | omega)]; first | assumption | exact e_up_s))) | exact hD.1 | exact hD1.1 | exact hD2.1 | exact gD.1 | exact gD1.1 | exact gD2.1 | exact gQ.1 | exact hQ.1 | exact gS.1 | exact hS.1 | exact zD.1) rfl (by decide) w_fl_RX3_19 (by rfl) dX3_handOn_112 ?_
              refine e_aload_n F dX3_handOn_115 rfl ?_
              refine e_get (ci := 3) (fi := 0) (q := (RX3, TX3, 5)) F (by first | assumption | exact e_up_s | (rw [e_up_n (by first | assumption | omega)]; first | assumption | exact e_up_s | (rw [e_up_n (by first | assumption | omega)]; first | assumption | exact e_up_s | (rw [e_up_n (by first | assumption | omega)]; first | assumption | exact e_up_s))) | exact hD.1 | exact hD1.1 | exact hD2.1 | exact gD.1 | exact gD1.1 | exact gD2.1 | exact gQ.1 | exact hQ.1 | exact gS.1 | exact hS.1 | exact zD.1) rfl (by decide) w_fl_RX3_10 (by rfl) dX3_handOn_116 ?_
              refine e_iload F dX3_handOn_119 rfl ?_
              refine e_iload F dX3_handOn_121 rfl ?_
              refine e_aload_n F dX3_handOn_123 rfl ?_
              refine e_get (ci := 3) (fi := 0) (q := (RX3, TX3, 5)) F (by first | assumption | exact e_up_s | (rw [e_up_n (by first | assumption | omega)]; first | assumption | exact e_up_s | (rw [e_up_n (by first | assumption | omega)]; first | assumption | exact e_up_s | (rw [e_up_n (by first | assumption | omega)]; first | assumption | exact e_up_s))) | exact hD.1 | exact hD1.1 | exact hD2.1 | exact gD.1 | exact gD1.1 | exact gD2.1 | exact gQ.1 | exact hQ.1 | exact gS.1 | exact hS.1 | exact zD.1) rfl (by decide) w_fl_RX3_10 (by rfl) dX3_handOn_124 ?_
              refine e_iload F dX3_handOn_127 rfl ?_
              refine e_i2l F dX3_handOn_129 (⟨by omega, by omega⟩) ?_
              refine e_iload F dX3_handOn_130 rfl ?_
              refine e_i2l F dX3_handOn_132 (⟨by omega, by omega⟩) ?_
              refine e_lmul F dX3_handOn_133 ?_
              refine e_iload F dX3_handOn_134 rfl ?_
              refine e_i2l F dX3_handOn_136 (⟨by omega, by omega⟩) ?_
              refine e_iload F dX3_handOn_137 rfl ?_
              refine e_i2l F dX3_handOn_139 (⟨by omega, by omega⟩) ?_
              refine e_lmul F dX3_handOn_140 ?_
              refine e_ladd F dX3_handOn_141 ?_
              refine e_callVN F u_X1_modPrime (by rfl) (c_X1_modPrime yFO hwh (by constructor <;> omega)) (by first | assumption | exact e_up_s | (rw [e_up_n (by first | assumption | omega)]; first | assumption | exact e_up_s | (rw [e_up_n (by first | assumption | omega)]; first | assumption | exact e_up_s | (rw [e_up_n (by first | assumption | omega)]; first | assumption | exact e_up_s))) | exact hD.1 | exact hD1.1 | exact hD2.1 | exact gD.1 | exact gD1.1 | exact gD2.1 | exact gQ.1 | exact hQ.1 | exact gS.1 | exact hS.1 | exact zD.1) rfl rfl w_mn_RX3_59 dX3_handOn_142 (by rfl) (Nat.le_of_ble_eq_true rfl) (by decide) (by omega) (fun _ _ _ h _ => False.elim h) (fun r_142 w_142 n_142 h_142 hn_142 => ?_)
              obtain ⟨rfl, ew_142, en_142⟩ := h_142
              rw [ew_142, en_142]
              refine e_callVN F u_X2_addTo (by rfl) (c_X2_addTo zQ yFO hwh (h := j) (v := (wgt wh u ((k : Int) + 1) 0)) (u := (a * ((k : Int) + 1) + b * j) % pr wh) (by omega) (by omega) (by omega) ⟨by omega, by omega⟩) zQ.1 rfl rfl w_mn_RX3_174 dX3_handOn_145 (by rfl) (Nat.le_of_ble_eq_true rfl) (by decide) (by omega) (fun _ _ _ h _ => False.elim h) (fun r_145 w_145 n_145 h_145 hn_145 => ?_)
              
              refine e_iinc F dX3_handOn_148 rfl (by decide) ?_
              refine e_goto F 104 dX3_handOn_151 (by decide) ?_
              obtain ⟨rfl, en_145, vQ, vF⟩ := h_145
              rw [en_145]
              refine e_go (ih2 (j + 1) w_145 (by omega) ⟨by omega, by omega, vQ.to (fun c c0 c1 => ?_), fun q a1 a2 => by rw [vF q a1 a2, zF q a1 a2]⟩) (And.intro rfl (And.intro rfl (And.intro rfl (And.intro rfl (And.intro rfl (And.intro rfl (And.intro rfl (And.intro rfl (And.intro rfl (And.intro rfl (trivial)))))))))))
              unfold e_fu
              try dsimp only
              by_cases e9 : c = j
              · rw [if_pos e9, if_neg (show ¬ j < j by omega), if_pos (show c < j + 1 by omega), e9, hoP_yes hmem (by omega), if_neg (show ¬ j = 0 by omega)]
              · rw [if_neg e9]
                by_cases e8 : c < j
                · rw [if_pos e8, if_pos (show c < j + 1 by omega)]
                · rw [if_neg e8, if_neg (show ¬ c < j + 1 by omega)]
        refine e_iload F dX3_handOn_46 rfl ?_
        refine e_aload_n F dX3_handOn_48 rfl ?_
        refine e_get (ci := 3) (fi := 0) (q := (RX3, TX3, 5)) F (by first | assumption | exact e_up_s | (rw [e_up_n (by first | assumption | omega)]; first | assumption | exact e_up_s | (rw [e_up_n (by first | assumption | omega)]; first | assumption | exact e_up_s | (rw [e_up_n (by first | assumption | omega)]; first | assumption | exact e_up_s))) | exact hD.1 | exact hD1.1 | exact hD2.1 | exact gD.1 | exact gD1.1 | exact gD2.1 | exact gQ.1 | exact hQ.1 | exact gS.1 | exact hS.1 | exact zD.1) rfl (by decide) w_fl_RX3_10 (by rfl) dX3_handOn_49 ?_
        refine e_getN (ci := 1) (fi := 4) (q := (RX1, TX1, 5)) F (by first | assumption | exact e_up_s | (rw [e_up_n (by first | assumption | omega)]; first | assumption | exact e_up_s | (rw [e_up_n (by first | assumption | omega)]; first | assumption | exact e_up_s | (rw [e_up_n (by first | assumption | omega)]; first | assumption | exact e_up_s))) | exact hD.1 | exact hD1.1 | exact hD2.1 | exact gD.1 | exact gD1.1 | exact gD2.1 | exact gQ.1 | exact hQ.1 | exact gS.1 | exact hS.1 | exact zD.1) rfl (by decide) w_fn_RX3_116 (by rfl) dX3_handOn_52 ?_
        refine e_icmp_gt F 160 dX3_handOn_55 (by decide) (⟨by omega, by omega⟩) (⟨by omega, by omega⟩) (fun c_55 => ?_) (fun c_55 => ?_)
        ·
          obtain rfl : k = (ho wh).toNat := by omega
          refine e_aload_n F dX3_handOn_160 rfl ?_
          refine e_aload F dX3_handOn_161 rfl ?_
          refine e_iload F dX3_handOn_163 rfl ?_
          refine e_callVV F u_X3_layPoly (by rfl) (c_X3_layPoly gX gFO hwh gQ (hres.1.2.2.2.2.2.1 t.toNat (by omega)).1 (by omega) (g := g) (by omega)) gX rfl rfl w_ml_RX3_105 dX3_handOn_165 (by rfl) (Nat.le_of_ble_eq_true rfl) (by decide) (by omega) (fun _ _ _ h _ => False.elim h) (fun r_165 w_165 n_165 h_165 hn_165 => ?_)
          obtain ⟨rfl, en_165, yD, yF⟩ := h_165
          rw [en_165]
          have hr2 := hres.1.deal (by omega) (s := lpS wh g (hoP wh u (D i.toNat).A g a b (ho wh).toNat)) yD (lpS_SW hwh g _) yF
          refine e_iret F rfl (by omega) ?_ dX3_handOn_168
          refine ⟨⟨⟨hi1, hi2⟩, hrs, hrd⟩, ?_⟩
          unfold haQ
          rw [if_pos c_30]
          exact ⟨rfl, rfl, hr2.1, hres.2.tr hr2.2⟩
        · refine e_iload_n F dX3_handOn_58 rfl ?_
          refine e_iload F dX3_handOn_59 rfl ?_
          refine e_callSS F u_X3_isIn (by rfl) (c_X3_isIn (set := u) (h := (k : Int) + 1) (by omega) (by omega) (by omega) (by omega)) w_ml_RX3_83 dX3_handOn_61 (by rfl) (Nat.le_of_ble_eq_true rfl) (by decide) (by omega) (fun _ _ _ h _ => False.elim h) (fun r_61 w_61 n_61 h_61 hn_61 => ?_)
          obtain ⟨rfl, ew_61, en_61⟩ := h_61
          rw [ew_61, en_61]
          refine e_if_eq F 154 dX3_handOn_64 (by decide) (b01_r _) (fun c_64 => ?_) (fun c_64 => ?_)
          ·
            rw [b01_0] at c_64
            exact e_go (l154 (by omega) wl (by rw [hoP_no c_64]; exact gQ) gF) (And.intro rfl (And.intro rfl (And.intro rfl (And.intro rfl (And.intro rfl (And.intro rfl (And.intro rfl (And.intro rfl (trivial)))))))))
          ·
            rw [b01_0, Classical.not_not] at c_64
            refine e_aload_n F dX3_handOn_67 rfl ?_
            refine e_get (ci := 3) (fi := 0) (q := (RX3, TX3, 5)) F (by first | assumption | exact e_up_s | (rw [e_up_n (by first | assumption | omega)]; first | assumption | exact e_up_s | (rw [e_up_n (by first | assumption | omega)]; first | assumption | exact e_up_s | (rw [e_up_n (by first | assumption | omega)]; first | assumption | exact e_up_s))) | exact hD.1 | exact hD1.1 | exact hD2.1 | exact gD.1 | exact gD1.1 | exact gD2.1 | exact gQ.1 | exact hQ.1 | exact gS.1 | exact hS.1 | exact zD.1) rfl (by decide) w_fl_RX3_10 (by rfl) dX3_handOn_68 ?_
            refine e_iload_n F dX3_handOn_71 rfl ?_
            refine e_iload F dX3_handOn_72 rfl ?_
            refine e_iconst F dX3_handOn_74 ?_
            refine e_callVN F u_X1_weightAt (by rfl) (c_X1_weightAt gFO hwh (set := u) (h := (k : Int) + 1) (x := 0) (by omega) (by omega) (by omega) (by omega) (by decide)) (by first | assumption | exact e_up_s | (rw [e_up_n (by first | assumption | omega)]; first | assumption | exact e_up_s | (rw [e_up_n (by first | assumption | omega)]; first | assumption | exact e_up_s | (rw [e_up_n (by first | assumption | omega)]; first | assumption | exact e_up_s))) | exact hD.1 | exact hD1.1 | exact hD2.1 | exact gD.1 | exact gD1.1 | exact gD2.1 | exact gQ.1 | exact hQ.1 | exact gS.1 | exact hS.1 | exact zD.1) rfl rfl w_mn_RX3_87 dX3_handOn_75 (by rfl) (Nat.le_of_ble_eq_true rfl) (by decide) (by omega) (fun _ _ _ h _ => False.elim h) (fun r_75 w_75 n_75 h_75 hn_75 => ?_)
            obtain ⟨rfl, ew_75, en_75⟩ := h_75
            rw [ew_75, en_75]
            refine e_istore F dX3_handOn_78 (by decide) ?_
            refine e_aload_n F dX3_handOn_80 rfl ?_
            refine e_get (ci := 3) (fi := 1) (q := (RX3, TX3, 5)) F (by first | assumption | exact e_up_s | (rw [e_up_n (by first | assumption | omega)]; first | assumption | exact e_up_s | (rw [e_up_n (by first | assumption | omega)]; first | assumption | exact e_up_s | (rw [e_up_n (by first | assumption | omega)]; first | assumption | exact e_up_s))) | exact hD.1 | exact hD1.1 | exact hD2.1 | exact gD.1 | exact gD1.1 | exact gD2.1 | exact gQ.1 | exact hQ.1 | exact gS.1 | exact hS.1 | exact zD.1) rfl (by decide) w_fl_RX3_19 (by rfl) dX3_handOn_81 ?_
            refine e_aload_n F dX3_handOn_84 rfl ?_
            refine e_get (ci := 3) (fi := 0) (q := (RX3, TX3, 5)) F (by first | assumption | exact e_up_s | (rw [e_up_n (by first | assumption | omega)]; first | assumption | exact e_up_s | (rw [e_up_n (by first | assumption | omega)]; first | assumption | exact e_up_s | (rw [e_up_n (by first | assumption | omega)]; first | assumption | exact e_up_s))) | exact hD.1 | exact hD1.1 | exact hD2.1 | exact gD.1 | exact gD1.1 | exact gD2.1 | exact gQ.1 | exact hQ.1 | exact gS.1 | exact hS.1 | exact zD.1) rfl (by decide) w_fl_RX3_10 (by rfl) dX3_handOn_85 ?_
            refine e_iconst F dX3_handOn_88 ?_
            refine e_iload F dX3_handOn_89 rfl ?_
            refine e_aload F dX3_handOn_91 rfl ?_
            refine e_iload F dX3_handOn_93 rfl ?_
            refine e_callVN F u_X0_shareAt (by rfl) (c_X0_shareAt gD1 (h := (k : Int) + 1) (by omega) (by omega)) gD1.1 rfl rfl w_mn_RX3_123 dX3_handOn_95 (by rfl) (Nat.le_of_ble_eq_true rfl) (by decide) (by omega) (fun _ _ _ h _ => False.elim h) (fun r_95 w_95 n_95 h_95 hn_95 => ?_)
            obtain ⟨rfl, ew_95, en_95⟩ := h_95
            rw [ew_95, en_95]
            have ra := gD1.2.2.2.2.2.2.1 ((k : Int) + 1) (by omega) (by omega)
            refine e_callVN F u_X2_addTo (by rfl) (c_X2_addTo gQ gFO hwh (h := 0) (v := (wgt wh u ((k : Int) + 1) 0)) (u := (D i.toNat).A ((k : Int) + 1)) (by omega) (by omega) (by omega) ⟨by omega, by omega⟩) gQ.1 rfl rfl w_mn_RX3_174 dX3_handOn_98 (by rfl) (Nat.le_of_ble_eq_true rfl) (by decide) (by omega) (fun _ _ _ h _ => False.elim h) (fun r_98 w_98 n_98 h_98 hn_98 => ?_)
            obtain ⟨rfl, en_98, vQ, vF⟩ := h_98
            rw [en_98]
            refine e_iconst F dX3_handOn_101 ?_
            refine e_istore F dX3_handOn_102 (by decide) ?_
            refine e_go (lq c_64 (by omega) 9 1 w_98 (by omega) ⟨by omega, by omega, vQ.to (fun c c0 c1 => ?_), fun q a1 a2 => by rw [vF q a1 a2, gF q a1 a2]⟩) (And.intro rfl (And.intro rfl (And.intro rfl (And.intro rfl (And.intro rfl (And.intro rfl (And.intro rfl (And.intro rfl (And.intro rfl (And.intro rfl (trivial)))))))))))
            unfold e_fu
            try dsimp only
            by_cases e9 : c = 0
            · rw [if_pos e9, if_pos (show c < 1 by omega), e9, hoP_yes c_64 (by omega), if_pos rfl]
            · rw [if_neg e9, if_neg (show ¬ c < 1 by omega)]
    refine e_iconst F dX3_handOn_43 ?_
    refine e_istore F dX3_handOn_44 (by decide) ?_
    exact e_go (lp 8 0 w_40 (by omega) ⟨by omega, vQ, fun q a1 _ => vF q a1⟩) (And.intro rfl (And.intro rfl (And.intro rfl (And.intro rfl (And.intro rfl (And.intro rfl (And.intro rfl (And.intro rfl (trivial)))))))))
  ·
    rw [b01_0] at c_30
    refine e_bipush F dX3_handOn_33 (by decide) ?_
    refine e_iret F rfl (by omega) ?_ dX3_handOn_35
    refine ⟨⟨⟨hi1, hi2⟩, hrs, hrd⟩, ?_⟩
    unfold haQ
    rw [if_neg c_30]
    exact ⟨rfl, rfl, hC0, FR.rf⟩
