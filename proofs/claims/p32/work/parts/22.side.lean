/-! ===== the side that is read into ===== -/
theorem SEG_on {M X : qM} {s p q : Int} (h : SEG M s p q) (e1 : ∀ j, 420 * s ≤ j → j < q → X 118 j = M 118 j) (e2 : ∀ j, 420 * s ≤ j → j < q → X 119 j = M 119 j) : SEG X s p q := by
  obtain ⟨h1, h2, D, h3, h4⟩ := h
  refine ⟨h1, h2, D, h3, fun i a b => ?_⟩
  have h1' := h1.1
  rw [e1 i (by omega) b, e2 i (by omega) b]
  exact h4 i a b
theorem LAW_on {M X : qM} {s k : Int} (h : LAW M s k) (hk : 0 ≤ k ∧ k < 40) (e : ∀ (a : Nat) (w : Int) (j : Int), (a, w) ∈ [(111, 40), (112, 40), (113, 130), (114, 130), (115, 130), (116, 130), (117, 130), (118, 420), (119, 420)] → w * s ≤ j → j < w * s + w → X a j = M a j) : LAW X s k := by
  unfold LAW at h ⊢
  rw [e 111 40 _ (by decide) (by omega) (by omega), e 112 40 _ (by decide) (by omega) (by omega)]
  intro b h1 h2
  have hb := h b h1 h2
  rw [e 113 130 b (by decide) (by omega) (by omega), e 114 130 b (by decide) (by omega) (by omega), e 115 130 b (by decide) (by omega) (by omega), e 116 130 b (by decide) (by omega) (by omega), e 117 130 b (by decide) (by omega) (by omega)]
  have hs : ∀ p q, SEG M s p q → SEG X s p q := fun p q hq => SEG_on hq (fun j a c => e 118 420 j (by decide) a (by have := hq.2.1; omega)) (fun j a c => e 119 420 j (by decide) a (by have := hq.2.1; omega))
  exact ⟨hb.1, fun hn => ⟨hs _ _ (hb.2.1 hn).1, hs _ _ (hb.2.1 hn).2⟩, hs _ _ hb.2.2⟩
def qWd : List (Nat × Int) := [(95, 1), (96, 6), (97, 6), (98, 6), (100, 1), (101, 5), (102, 5), (103, 1), (104, 12), (105, 12), (106, 1), (107, 12), (108, 12), (111, 40), (112, 40), (113, 130), (114, 130), (115, 130), (116, 130), (117, 130), (118, 420), (119, 420)]
theorem BK_side {M X : qM} {s : Int} (h : BK M s) (hr : M 95 s ≤ 6 ∧ M 100 s ≤ 5 ∧ M 103 s ≤ 12 ∧ M 106 s ≤ 12) (e : ∀ (a : Nat) (w : Int) (j : Int), (a, w) ∈ qWd → w * s ≤ j → j < w * s + w → X a j = M a j) : BK X s := by
  obtain ⟨h1, h2, h3, h4, h5⟩ := h
  have e95 := e 95 1 s (by decide) (by omega) (by omega)
  have e100 := e 100 1 s (by decide) (by omega) (by omega)
  have e103 := e 103 1 s (by decide) (by omega) (by omega)
  have e106 := e 106 1 s (by decide) (by omega) (by omega)
  refine ⟨?_, ?_, ?_, ?_, ?_⟩
  · intro i a b
    rw [e95] at b
    rw [e 98 6 _ (by decide) (by omega) (by omega), e 96 6 _ (by decide) (by omega) (by omega), e 97 6 _ (by decide) (by omega) (by omega)]
    exact h1 i a b
  · intro i a b
    rw [e100] at b
    rw [e 101 5 _ (by decide) (by omega) (by omega), e 102 5 _ (by decide) (by omega) (by omega)]
    exact h2 i a b
  · intro i a b
    rw [e103] at b
    rw [e 104 12 _ (by decide) (by omega) (by omega), e 105 12 _ (by decide) (by omega) (by omega)]
    exact h3 i a b
  · intro i a b
    rw [e106] at b
    rw [e 107 12 _ (by decide) (by omega) (by omega), e 108 12 _ (by decide) (by omega) (by omega)]
    exact h4 i a b
  · intro k a b
    refine LAW_on (h5 k a b) ⟨a, b⟩ (fun a' w j hm h6 h7 => e a' w j ?_ h6 h7)
    revert hm
    simp only [qWd, List.mem_cons, List.not_mem_nil, or_false]
    intro hm
    rcases hm with hm | hm | hm | hm | hm | hm | hm | hm | hm <;> (rw [hm]; simp)
theorem INV_side {S : Int} {N X : qM} {a : Nat} {w i v : Int} (hI : INV S N) (e : X = stM N a i v) (h : qIn (gB a i) v) (hw : (a, w) ∈ qWd) (hi : i < w * N 84 18 ∨ w * N 84 18 + w ≤ i) : INV S X := by
  have ha : a ≠ 84 ∧ a ≠ 123 ∧ a ≠ 124 ∧ a ≠ 125 ∧ a ≠ 134 := by
    revert hw
    simp only [qWd, List.mem_cons, List.not_mem_nil, or_false, Prod.mk.injEq]
    intro hw
    rcases hw with hw | hw | hw | hw | hw | hw | hw | hw | hw | hw | hw | hw | hw | hw | hw | hw | hw | hw | hw | hw | hw | hw <;> omega
  have f : ∀ b : Nat, b ≠ a → X b = N b := fun b hb => funext (fun j => stM_k e b j (Or.inl hb))
  have hwu : ∀ (b : Nat) (w' : Int), (b, w') ∈ qWd → b = a → w' = w := by
    intro b w' h1 h2
    subst h2
    revert h1 hw
    simp only [qWd, List.mem_cons, List.not_mem_nil, or_false, Prod.mk.injEq]
    intro h1 hw
    omega
  refine ⟨IR_st hI.1 e h, ?_, ?_⟩
  · have := hI.2.1
    unfold SU at this ⊢
    rw [f 123 (Ne.symm ha.2.1), f 124 (Ne.symm ha.2.2.1), f 125 (Ne.symm ha.2.2.2.1), f 134 (Ne.symm ha.2.2.2.2)]
    exact this
  · rw [f 84 (Ne.symm ha.1)]
    have r1 : (0 : Int) ≤ N 95 (N 84 18) ∧ N 95 (N 84 18) ≤ (6 : Int) := hI.1 95 (N 84 18)
    have r2 : (0 : Int) ≤ N 100 (N 84 18) ∧ N 100 (N 84 18) ≤ (5 : Int) := hI.1 100 (N 84 18)
    have r3 : (0 : Int) ≤ N 103 (N 84 18) ∧ N 103 (N 84 18) ≤ (12 : Int) := hI.1 103 (N 84 18)
    have r4 : (0 : Int) ≤ N 106 (N 84 18) ∧ N 106 (N 84 18) ≤ (12 : Int) := hI.1 106 (N 84 18)
    refine BK_side hI.2.2 ⟨r1.2, r2.2, r3.2, r4.2⟩ (fun b w' j h1 h2 h3 => stM_k e b j ?_)
    by_cases hb : b = a
    · have := hwu b w' h1 hb
      subst this
      exact Or.inr (by omega)
    · exact Or.inl hb
/-- signs that wait: how many open ones below each -/
def WS (f : Int → Int) (n sx : Int) : Prop := ∃ W : Int → Int, W 0 = 0 ∧ W n = sx ∧ ∀ p, 0 ≤ p → p < n → 0 ≤ W p ∧ (f p = 6 → W (p + 1) = W p + 1 ∧ p ≤ 3 * W p + 2) ∧ (f p ≠ 6 → W (p + 1) = W p ∧ p ≤ 3 * W p + 1) ∧ (f p = 8 ∨ f p = 9 → p ≤ 3 * W p)
theorem WS_0 {f : Int → Int} : WS f 0 0 := ⟨fun _ => 0, rfl, rfl, fun p a b => by omega⟩
theorem WS_top {f : Int → Int} {n sx : Int} (h : WS f n sx) (hn : 0 ≤ n) : (n = 0 ∧ sx = 0) ∨ (0 < n ∧ 0 ≤ sx ∧ n ≤ 3 * sx + 2 ∧ (f (n - 1) = 6 → 1 ≤ sx ∧ n ≤ 3 * sx) ∧ (f (n - 1) = 8 ∨ f (n - 1) = 9 → n ≤ 3 * sx + 1)) := by
  obtain ⟨W, h0, h1, h2⟩ := h
  by_cases hz : n = 0
  · subst hz; exact Or.inl ⟨rfl, by omega⟩
  · have h3 := h2 (n - 1) (by omega) (by omega)
    rw [show n - 1 + 1 = n by omega] at h3
    refine Or.inr ⟨by omega, ?_⟩
    by_cases h6 : f (n - 1) = 6
    · have := h3.2.1 h6
      exact ⟨by omega, by omega, fun _ => ⟨by omega, by omega⟩, fun h7 => by omega⟩
    · have := h3.2.2.1 h6
      exact ⟨by omega, by omega, fun h7 => absurd h7 h6, fun h7 => by have := h3.2.2.2 h7; omega⟩
theorem WS_pop {f : Int → Int} {n sx : Int} (h : WS f n sx) (hn : 0 < n) : WS f (n - 1) (if f (n - 1) = 6 then sx - 1 else sx) := by
  obtain ⟨W, h0, h1, h2⟩ := h
  have h3 := h2 (n - 1) (by omega) (by omega)
  rw [show n - 1 + 1 = n by omega] at h3
  refine ⟨W, h0, ?_, fun p a b => h2 p a (by omega)⟩
  by_cases h6 : f (n - 1) = 6
  · rw [if_pos h6]; have := h3.2.1 h6; omega
  · rw [if_neg h6]; have := h3.2.2.1 h6; omega
theorem WS_push {f g : Int → Int} {n sx v : Int} (h : WS f n sx) (hn : 0 ≤ n) (hg : g n = v) (hf : ∀ p, 0 ≤ p → p < n → g p = f p) (hs : 0 ≤ sx) (h6 : v = 6 → n ≤ 3 * sx + 2) (h7 : v ≠ 6 → n ≤ 3 * sx + 1) (h8 : v = 8 ∨ v = 9 → n ≤ 3 * sx) : WS g (n + 1) (if v = 6 then sx + 1 else sx) := by
  obtain ⟨W, h0, h1, h2⟩ := h
  refine ⟨fun p => if p = n + 1 then (if v = 6 then sx + 1 else sx) else W p, ?_, ?_, ?_⟩
  · show (if (0 : Int) = n + 1 then _ else W 0) = 0
    rw [if_neg (by omega)]; exact h0
  · show (if n + 1 = n + 1 then _ else _) = _
    rw [if_pos rfl]
  · intro p a b
    show 0 ≤ (if p = n + 1 then _ else W p) ∧ (g p = 6 → (if p + 1 = n + 1 then _ else W (p + 1)) = (if p = n + 1 then _ else W p) + 1 ∧ p ≤ 3 * (if p = n + 1 then _ else W p) + 2) ∧ (g p ≠ 6 → (if p + 1 = n + 1 then _ else W (p + 1)) = (if p = n + 1 then _ else W p) ∧ p ≤ 3 * (if p = n + 1 then _ else W p) + 1) ∧ (g p = 8 ∨ g p = 9 → p ≤ 3 * (if p = n + 1 then _ else W p))
    rw [if_neg (show ¬ p = n + 1 by omega)]
    by_cases hp : p = n
    · subst hp
      rw [if_pos rfl, hg, h1]
      refine ⟨hs, fun hv => ⟨by rw [if_pos hv], h6 hv⟩, fun hv => ⟨by rw [if_neg hv], h7 hv⟩, h8⟩
    · rw [if_neg (show ¬ p + 1 = n + 1 by omega), hf p a (by omega)]
      exact h2 p a (by omega)
theorem WS_on {f g : Int → Int} {n sx : Int} (h : WS f n sx) (hf : ∀ p, 0 ≤ p → p < n → g p = f p) : WS g n sx := by
  obtain ⟨W, h0, h1, h2⟩ := h
  exact ⟨W, h0, h1, fun p a b => by rw [hf p a b]; exact h2 p a b⟩
/-- code put down so far, the pile's depth behind it -/
def CS (c v : Int → Int) (p q d : Int) : Prop := p ≤ q ∧ 0 ≤ d ∧ ∃ D : Int → Int, D p = 0 ∧ D q = d ∧ ∀ i, p ≤ i → i < q → 0 ≤ D i ∧ D i ≤ 399 ∧ 0 ≤ c i ∧ c i ≤ 5 ∧ (c i < 2 → D (i + 1) = D i + 1) ∧ (c i = 1 → 0 ≤ v i ∧ v i < 7) ∧ (2 ≤ c i → D (i + 1) = D i - 1 ∧ 2 ≤ D i)
theorem CS_0 {c v : Int → Int} {p : Int} : CS c v p p 0 := ⟨by omega, by omega, fun _ => 0, rfl, rfl, fun i a b => by omega⟩
theorem CS_SEG {M : qM} {s p q d : Int} (h : CS (M 118) (M 119) p q d) (h1 : 420 * s ≤ p) (h2 : q ≤ 420 * s + 420) (hd : 1 ≤ d) : SEG M s p q := by
  obtain ⟨h6, _, D, h3, h4, h5⟩ := h
  have hne : p ≠ q := fun he => by rw [he] at h3; omega
  exact ⟨⟨h1, by omega⟩, h2, D, h3, h5⟩
theorem CS_on {c v c' v' : Int → Int} {p q d : Int} (h : CS c v p q d) (e1 : ∀ j, p ≤ j → j < q → c' j = c j) (e2 : ∀ j, p ≤ j → j < q → v' j = v j) : CS c' v' p q d := by
  obtain ⟨h1, h2, D, h3, h4, h5⟩ := h
  exact ⟨h1, h2, D, h3, h4, fun i a b => by rw [e1 i a b, e2 i a b]; exact h5 i a b⟩
theorem CS_put {c v c' v' : Int → Int} {p q d k x d' : Int} (h : CS c v p q d) (e1 : ∀ j, p ≤ j → j < q → c' j = c j) (e2 : ∀ j, p ≤ j → j < q → v' j = v j) (g1 : c' q = k) (g2 : v' q = x) (hk : 0 ≤ k ∧ k ≤ 5) (hx : k = 1 → 0 ≤ x ∧ x < 7) (hd : d ≤ 399) (h2 : (k < 2 ∧ d' = d + 1) ∨ (2 ≤ k ∧ 2 ≤ d ∧ d' = d - 1)) : CS c' v' p (q + 1) d' := by
  obtain ⟨h1, h0, D, h3, h4, h5⟩ := h
  refine ⟨by omega, by omega, fun i => if i = q + 1 then d' else D i, ?_, ?_, ?_⟩
  · show (if p = q + 1 then d' else D p) = 0
    rw [if_neg (by omega)]; exact h3
  · show (if q + 1 = q + 1 then d' else _) = d'
    rw [if_pos rfl]
  · intro i a b
    show 0 ≤ (if i = q + 1 then d' else D i) ∧ (if i = q + 1 then d' else D i) ≤ 399 ∧ 0 ≤ c' i ∧ c' i ≤ 5 ∧ (c' i < 2 → (if i + 1 = q + 1 then d' else D (i + 1)) = (if i = q + 1 then d' else D i) + 1) ∧ (c' i = 1 → 0 ≤ v' i ∧ v' i < 7) ∧ (2 ≤ c' i → (if i + 1 = q + 1 then d' else D (i + 1)) = (if i = q + 1 then d' else D i) - 1 ∧ 2 ≤ (if i = q + 1 then d' else D i))
    rw [if_neg (show ¬ i = q + 1 by omega)]
    by_cases hi : i = q
    · subst hi
      rw [if_pos rfl, g1, g2, h4]
      exact ⟨by omega, by omega, by omega, by omega, fun _ => by omega, hx, fun _ => ⟨by omega, by omega⟩⟩
    · rw [if_neg (show ¬ i + 1 = q + 1 by omega), e1 i a (by omega), e2 i a (by omega)]
      exact h5 i a (by omega)
def XS (N : qM) (c0 sx e : Int) : Prop := WS (N 120) (N 84 52) sx ∧ CS (N 118) (N 119) c0 (N 84 48) (N 84 52 - sx + e)
theorem XS_on {N X : qM} {c0 sx e : Int} (h : XS N c0 sx e) (h1 : X 120 = N 120) (h2 : X 118 = N 118) (h3 : X 119 = N 119) (h4 : X 84 52 = N 84 52) (h5 : X 84 48 = N 84 48) : XS X c0 sx e := by
  unfold XS; rw [h1, h2, h3, h4, h5]; exact h
theorem XS_fr {N X : qM} {c0 sx e : Int} {ms : List (Nat × Option Nat)} (h : XS N c0 sx e) (m : qSm ms N X) (hm : ms.all (fun m => ! ([118, 119, 120].contains m.1) && ! (Nat.beq m.1 84 && (match m.2 with | none => true | some f => Nat.beq f 48 || Nat.beq f 52))) = true) : XS X c0 sx e := by
  have hb' := List.all_eq_true.mp hm
  have key : ∀ b j, (([118, 119, 120] : List Nat).contains b = true ∨ (b = 84 ∧ (j = 48 ∨ j = 52))) → qHit ms b j = false := by
    intro b j hbj
    cases hq : qHit ms b j with
    | false => rfl
    | true =>
      exfalso
      obtain ⟨m, hm1, hm2⟩ := List.any_eq_true.mp hq
      have h5 := hb' m hm1
      rw [Bool.and_eq_true] at h5 hm2
      have e1 := Nat.eq_of_beq_eq_true hm2.1
      rcases hbj with h6 | ⟨h6, h7⟩
      · rw [e1, h6] at h5
        exact Bool.noConfusion h5.1
      · subst h6
        have h8 := h5.2
        rw [e1] at h8
        cases ho : m.2 with
        | none => rw [ho] at h8; exact Bool.noConfusion h8
        | some f =>
          rw [ho] at h8
          have h9 := hm2.2
          rw [ho] at h9
          have h10 : j = (f : Int) := of_decide_eq_true h9
          have h11 : f = 48 ∨ f = 52 := by omega
          rcases h11 with rfl | rfl <;> exact Bool.noConfusion h8
  exact XS_on h (funext (fun j => m 120 j (key 120 j (Or.inl rfl)))) (funext (fun j => m 118 j (key 118 j (Or.inl rfl)))) (funext (fun j => m 119 j (key 119 j (Or.inl rfl)))) (m 84 52 (key 84 52 (Or.inr ⟨rfl, Or.inr rfl⟩))) (m 84 48 (key 84 48 (Or.inr ⟨rfl, Or.inl rfl⟩)))
/-- code put down while nothing waits otherwise -/
theorem XS_put {N Z : qM} {c0 sx e k x d' : Int} (h : XS N c0 sx e) (m : qSm [(118, none), (119, none), (84, some 48)] N Z) (k1 : ∀ j, j < N 84 48 → Z 118 j = N 118 j) (k2 : ∀ j, j < N 84 48 → Z 119 j = N 119 j) (p1 : Z 84 48 = N 84 48 + 1) (p2 : Z 118 (N 84 48) = k) (p3 : Z 119 (N 84 48) = x) (hk : 0 ≤ k ∧ k ≤ 5) (hx : k = 1 → 0 ≤ x ∧ x < 7) (hd : N 84 52 - sx + e ≤ 399) (h2 : (k < 2 ∧ d' = N 84 52 - sx + e + 1) ∨ (2 ≤ k ∧ 2 ≤ N 84 52 - sx + e ∧ d' = N 84 52 - sx + e - 1)) : WS (Z 120) (Z 84 52) sx ∧ CS (Z 118) (Z 119) c0 (Z 84 48) d' := by
  rw [show Z 120 = N 120 from funext (fun j => m 120 j rfl), m 84 52 rfl, p1]
  exact ⟨h.1, CS_put h.2 (fun j _ b => k1 j b) (fun j _ b => k2 j b) p2 p3 hk hx hd h2⟩
theorem XS_out {N X Z : qM} {c0 sx k x : Int} (h : XS N c0 sx 1) (e : X = stM N 84 52 (N 84 52 - 1)) (hn : 0 < N 84 52) (h6 : N 120 (N 84 52 - 1) ≠ 6) (hs : sx ≤ 7) (hk : 2 ≤ k ∧ k ≤ 5) (m : qSm [(118, none), (119, none), (84, some 48)] X Z) (k1 : ∀ j, j < X 84 48 → Z 118 j = X 118 j) (k2 : ∀ j, j < X 84 48 → Z 119 j = X 119 j) (p1 : Z 84 48 = X 84 48 + 1) (p2 : Z 118 (X 84 48) = k) (p3 : Z 119 (X 84 48) = x) : XS Z c0 sx 1 := by
  have ht := WS_top h.1 (by omega)
  have hp := WS_pop h.1 hn
  rw [if_neg h6] at hp
  have hX : XS X c0 sx 2 := by
    unfold XS
    rw [show X 120 = N 120 from funext (fun j => stM_k e 120 j (Or.inl (by decide))), show X 118 = N 118 from funext (fun j => stM_k e 118 j (Or.inl (by decide))), show X 119 = N 119 from funext (fun j => stM_k e 119 j (Or.inl (by decide))), stM_k e 84 48 (Or.inr (by decide)), stM_g e]
    refine ⟨hp, ?_⟩
    rw [show N 84 52 - 1 - sx + 2 = N 84 52 - sx + 1 by omega]
    exact h.2
  have he : X 84 52 = N 84 52 - 1 := stM_g e
  have hd0 := hX.2.2.1
  have hw : 0 ≤ N 84 52 - 1 - sx := by
    obtain ⟨W, w0, w1, w2⟩ := h.1
    have hc : ∀ n : Nat, (n : Int) ≤ N 84 52 → W n ≤ n := by
      intro n
      induction n with
      | zero => intro _; rw [show ((0 : Nat) : Int) = 0 from rfl, w0]; omega
      | succ n ih =>
        intro hl
        have i1 := ih (by omega)
        have i2 := w2 n (by omega) (by omega)
        rw [show ((n + 1 : Nat) : Int) = (n : Int) + 1 by omega]
        by_cases hq : N 120 n = 6
        · have := (i2.2.1 hq).1; omega
        · have := (i2.2.2.1 hq).1; omega
    have hq := w2 (N 84 52 - 1) (by omega) (by omega)
    rw [show N 84 52 - 1 + 1 = N 84 52 by omega] at hq
    have h8 := (hq.2.2.1 h6).1
    have h9 := hc (N 84 52 - 1).toNat (by omega)
    rw [show (((N 84 52 - 1).toNat : Nat) : Int) = N 84 52 - 1 by omega] at h9
    omega
  have := XS_put (d' := X 84 52 - sx + 1) hX m k1 k2 p1 p2 p3 (by omega) (fun h => by omega) (by omega) (Or.inr ⟨by omega, by omega, by omega⟩)
  unfold XS
  rw [m 84 52 rfl] at this ⊢
  exact this
