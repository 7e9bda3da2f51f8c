/-! the law -/
set_option maxRecDepth 100000 in
set_option maxHeartbeats 8000000 in
theorem w_law {G : tg_G} {nm : String} (hL : G.2.2.1 ≤ 2560) : tg_V G 10 (mLw nm) 0 0 61 887 (fun v _ => v = some (.int 1)) 0 [(0, .ref 1000)] [] ([], []) := by
  refine tg_newA [.null, .null, .int 0, .null, .null, .null, .null, .int 0, .null] rfl (by decide +kernel) rfl rfl ?_
  refine tg_steps 1 rfl ?_
  refine tg_call2 rfl (i_X10) rfl rfl rfl rfl  (fun v4 w4 q4 => ?_)
  obtain ⟨rfl, rfl⟩ := q4
  refine tg_steps 1 rfl ?_
  refine tg_newB [.null, .null, .null, .null, .null, .null, .int 0, .int 0, .int 0, .int 0, .null, .null, .null, .null, .int 0, .int 0, .int 0, .null, .int 0, .int 0, .int 0, .int 0, .null, .null, .int 0, .int 0] rfl (by decide +kernel) rfl rfl rfl ?_
  refine tg_steps 1 rfl ?_
  refine tg_call2 rfl (i_X11 rfl) rfl rfl rfl rfl  (fun v12 w12 q12 => ?_)
  obtain ⟨rfl, rfl⟩ := q12
  refine tg_steps 3 rfl ?_
  refine tg_pkV [0, 1, 2, 3] ?_
  refine tg_eqS (L2 := [(0, .ref 1000), (1, .ref 0), (2, .ref 64), (3, .int (nI (5 * (0))))]) (st2 := []) (w2 := (tp_cs h0H h0H h0H x0X, tm_cs h0H y0Y)) rfl rfl rfl ?_
  refine tg_down (φ := fun i : Nat => ∀ (n p t : tp_H) (x : tp_X) (h : tp_H) (y : tp_Y) (R : Rel n p x h y), tg_V G 10 (mLw nm) 61 887 61 887 (fun v _ => v = some (.int 1)) 18 [(0, .ref 1000), (1, .ref 0), (2, .ref 64), (3, .int (nI (5 * (i))))] [] (tp_cs n p t x, tm_cs h y)) (n := G.2.2.1 / 5) ?_ ?_ 0 (Nat.zero_le _) h0H h0H h0H x0X h0H y0Y rel_0 
  · intro n p t x h y R
    refine tg_steps 2 rfl ?_
    refine tg_slen rfl ?_
    refine tg_steps 2 rfl ?_
    refine tg_icgt rfl rfl (fun h23 => ?_) (fun h23 => ?_)
    · refine tg_steps 1 rfl ?_
      exact tg_zret (st := []) rfl rfl ⟨Nat.le_of_ble_eq_true rfl, Nat.le_of_ble_eq_true rfl⟩ (by first | exact tg_b1 _ | exact Or.inl rfl | exact Or.inr rfl) rfl
    · exact absurd (lw_out hL) h23
  · intro i hi18 ih18 n p t x h y R
    refine tg_steps 2 rfl ?_
    refine tg_slen rfl ?_
    refine tg_steps 2 rfl ?_
    refine tg_icgt rfl rfl (fun h23 => ?_) (fun h23 => ?_)
    · exact absurd h23 (lw_in hL hi18)
    · refine tg_steps 2 rfl ?_
      refine tg_sldN rfl (5 * i) rfl (by omega) hL ?_
      refine tg_steps 2 rfl ?_
      refine tg_tsw rfl ?_
      refine And.intro (fun h32_0 => ?_) (fun h32_0 => ?_)
      · obtain ⟨A, Z, hA, hB⟩ := pp_letter (G := G) (t := t) R (G.2.2.2.1 (5 * i + 1))
        refine tg_steps 5 rfl ?_
        refine tg_sldN rfl (5 * i + 1) (nI_add (5 * i) 1) (by omega) hL ?_
        refine tg_callV rfl (hA) rfl rfl rfl rfl rfl (fun v206 w206 q206 => ?_)
        obtain ⟨rfl, n2, p2, t2, x2, rfl, z2⟩ := q206
        refine tg_steps 5 rfl ?_
        refine tg_sldN rfl (5 * i + 1) (nI_add (5 * i) 1) (by omega) hL ?_
        refine tg_callV rfl (hB _ _ t2 _ z2) rfl rfl rfl rfl rfl (fun v215 w215 q215 => ?_)
        obtain ⟨rfl, h2, y2, rfl, R2⟩ := q215
        refine tg_iceq rfl rfl (fun h218 => ?_) (fun h218 => ?_)
        · refine tg_steps 2 rfl ?_
          refine tg_pkV [0, 1, 2, 3] ?_
          refine tg_eqS (L2 := [(0, .ref 1000), (1, .ref 0), (2, .ref 64), (3, .int (nI (5 * (i + 1))))]) (st2 := []) (w2 := _) (by rw [show 5 * (i + 1) = 5 * i + 5 by omega, ← nI_add (5 * i) 5]; rfl) rfl rfl ?_
          exact ih18 _ _ _ _ _ _ R2
        · exact absurd rfl h218
      refine And.intro (fun h32_1 => ?_) (fun h32_1 => ?_)
      · obtain ⟨A, Z, hA, hB⟩ := pp_chimney (G := G) (t := t) R 
        refine tg_steps 1 rfl ?_
        refine tg_callV rfl (hA) rfl rfl rfl rfl rfl (fun v224 w224 q224 => ?_)
        obtain ⟨rfl, n2, p2, t2, x2, rfl, z2⟩ := q224
        refine tg_steps 1 rfl ?_
        refine tg_callV rfl (hB _ _ t2 _ z2) rfl rfl rfl rfl rfl (fun v228 w228 q228 => ?_)
        obtain ⟨rfl, h2, y2, rfl, R2⟩ := q228
        refine tg_iceq rfl rfl (fun h231 => ?_) (fun h231 => ?_)
        · refine tg_steps 2 rfl ?_
          refine tg_pkV [0, 1, 2, 3] ?_
          refine tg_eqS (L2 := [(0, .ref 1000), (1, .ref 0), (2, .ref 64), (3, .int (nI (5 * (i + 1))))]) (st2 := []) (w2 := _) (by rw [show 5 * (i + 1) = 5 * i + 5 by omega, ← nI_add (5 * i) 5]; rfl) rfl rfl ?_
          exact ih18 _ _ _ _ _ _ R2
        · exact absurd rfl h231
      refine And.intro (fun h32_2 => ?_) (fun h32_2 => ?_)
      · obtain ⟨A, Z, hA, hB⟩ := pp_little (G := G) (t := t) R (G.2.2.2.1 (5 * i + 1)) (G.2.2.2.1 (5 * i + 2))
        refine tg_steps 5 rfl ?_
        refine tg_sldN rfl (5 * i + 1) (nI_add (5 * i) 1) (by omega) hL ?_
        refine tg_steps 4 rfl ?_
        refine tg_sldN rfl (5 * i + 2) (nI_add (5 * i) 2) (by omega) hL ?_
        refine tg_callV rfl (hA) rfl rfl rfl rfl rfl (fun v247 w247 q247 => ?_)
        obtain ⟨rfl, n2, p2, t2, x2, rfl, z2⟩ := q247
        refine tg_steps 5 rfl ?_
        refine tg_sldN rfl (5 * i + 1) (nI_add (5 * i) 1) (by omega) hL ?_
        refine tg_steps 4 rfl ?_
        refine tg_sldN rfl (5 * i + 2) (nI_add (5 * i) 2) (by omega) hL ?_
        refine tg_callV rfl (hB _ _ t2 _ z2) rfl rfl rfl rfl rfl (fun v261 w261 q261 => ?_)
        obtain ⟨rfl, h2, y2, rfl, R2⟩ := q261
        refine tg_iceq rfl rfl (fun h264 => ?_) (fun h264 => ?_)
        · refine tg_steps 2 rfl ?_
          refine tg_pkV [0, 1, 2, 3] ?_
          refine tg_eqS (L2 := [(0, .ref 1000), (1, .ref 0), (2, .ref 64), (3, .int (nI (5 * (i + 1))))]) (st2 := []) (w2 := _) (by rw [show 5 * (i + 1) = 5 * i + 5 by omega, ← nI_add (5 * i) 5]; rfl) rfl rfl ?_
          exact ih18 _ _ _ _ _ _ R2
        · exact absurd rfl h264
      refine And.intro (fun h32_3 => ?_) (fun h32_3 => ?_)
      · obtain ⟨A, Z, hA, hB⟩ := pp_tile (G := G) (t := t) R (G.2.2.2.1 (5 * i + 1)) (G.2.2.2.1 (5 * i + 2))
        refine tg_steps 5 rfl ?_
        refine tg_sldN rfl (5 * i + 1) (nI_add (5 * i) 1) (by omega) hL ?_
        refine tg_steps 4 rfl ?_
        refine tg_sldN rfl (5 * i + 2) (nI_add (5 * i) 2) (by omega) hL ?_
        refine tg_callV rfl (hA) rfl rfl rfl rfl rfl (fun v280 w280 q280 => ?_)
        obtain ⟨rfl, n2, p2, t2, x2, rfl, z2⟩ := q280
        refine tg_steps 5 rfl ?_
        refine tg_sldN rfl (5 * i + 1) (nI_add (5 * i) 1) (by omega) hL ?_
        refine tg_steps 4 rfl ?_
        refine tg_sldN rfl (5 * i + 2) (nI_add (5 * i) 2) (by omega) hL ?_
        refine tg_callV rfl (hB _ _ t2 _ z2) rfl rfl rfl rfl rfl (fun v294 w294 q294 => ?_)
        obtain ⟨rfl, h2, y2, rfl, R2⟩ := q294
        refine tg_iceq rfl rfl (fun h297 => ?_) (fun h297 => ?_)
        · refine tg_steps 2 rfl ?_
          refine tg_pkV [0, 1, 2, 3] ?_
          refine tg_eqS (L2 := [(0, .ref 1000), (1, .ref 0), (2, .ref 64), (3, .int (nI (5 * (i + 1))))]) (st2 := []) (w2 := _) (by rw [show 5 * (i + 1) = 5 * i + 5 by omega, ← nI_add (5 * i) 5]; rfl) rfl rfl ?_
          exact ih18 _ _ _ _ _ _ R2
        · exact absurd rfl h297
      refine And.intro (fun h32_4 => ?_) (fun h32_4 => ?_)
      · obtain ⟨A, Z, hA, hB⟩ := pp_comesIn (G := G) (t := t) R (G.2.2.2.1 (5 * i + 1)) (G.2.2.2.1 (5 * i + 2)) (G.2.2.2.1 (5 * i + 3))
        refine tg_steps 5 rfl ?_
        refine tg_sldN rfl (5 * i + 1) (nI_add (5 * i) 1) (by omega) hL ?_
        refine tg_steps 4 rfl ?_
        refine tg_sldN rfl (5 * i + 2) (nI_add (5 * i) 2) (by omega) hL ?_
        refine tg_steps 4 rfl ?_
        refine tg_sldN rfl (5 * i + 3) (nI_add (5 * i) 3) (by omega) hL ?_
        refine tg_callV rfl (hA) rfl rfl rfl rfl rfl (fun v318 w318 q318 => ?_)
        obtain ⟨rfl, n2, p2, t2, x2, rfl, z2⟩ := q318
        refine tg_steps 5 rfl ?_
        refine tg_sldN rfl (5 * i + 1) (nI_add (5 * i) 1) (by omega) hL ?_
        refine tg_steps 4 rfl ?_
        refine tg_sldN rfl (5 * i + 2) (nI_add (5 * i) 2) (by omega) hL ?_
        refine tg_steps 4 rfl ?_
        refine tg_sldN rfl (5 * i + 3) (nI_add (5 * i) 3) (by omega) hL ?_
        refine tg_callV rfl (hB _ _ t2 _ z2) rfl rfl rfl rfl rfl (fun v337 w337 q337 => ?_)
        obtain ⟨rfl, h2, y2, rfl, R2⟩ := q337
        refine tg_iceq rfl rfl (fun h340 => ?_) (fun h340 => ?_)
        · refine tg_steps 2 rfl ?_
          refine tg_pkV [0, 1, 2, 3] ?_
          refine tg_eqS (L2 := [(0, .ref 1000), (1, .ref 0), (2, .ref 64), (3, .int (nI (5 * (i + 1))))]) (st2 := []) (w2 := _) (by rw [show 5 * (i + 1) = 5 * i + 5 by omega, ← nI_add (5 * i) 5]; rfl) rfl rfl ?_
          exact ih18 _ _ _ _ _ _ R2
        · exact absurd rfl h340
      refine And.intro (fun h32_5 => ?_) (fun h32_5 => ?_)
      · obtain ⟨A, Z, hA, hB⟩ := pp_stands (G := G) (t := t) R (G.2.2.2.1 (5 * i + 1)) (G.2.2.2.1 (5 * i + 2))
        refine tg_steps 5 rfl ?_
        refine tg_sldN rfl (5 * i + 1) (nI_add (5 * i) 1) (by omega) hL ?_
        refine tg_steps 4 rfl ?_
        refine tg_sldN rfl (5 * i + 2) (nI_add (5 * i) 2) (by omega) hL ?_
        refine tg_callV rfl (hA) rfl rfl rfl rfl rfl (fun v356 w356 q356 => ?_)
        obtain ⟨rfl, n2, p2, t2, x2, rfl, z2⟩ := q356
        refine tg_steps 5 rfl ?_
        refine tg_sldN rfl (5 * i + 1) (nI_add (5 * i) 1) (by omega) hL ?_
        refine tg_steps 4 rfl ?_
        refine tg_sldN rfl (5 * i + 2) (nI_add (5 * i) 2) (by omega) hL ?_
        refine tg_callV rfl (hB _ _ t2 _ z2) rfl rfl rfl rfl rfl (fun v370 w370 q370 => ?_)
        obtain ⟨rfl, h2, y2, rfl, R2⟩ := q370
        refine tg_iceq rfl rfl (fun h373 => ?_) (fun h373 => ?_)
        · refine tg_steps 2 rfl ?_
          refine tg_pkV [0, 1, 2, 3] ?_
          refine tg_eqS (L2 := [(0, .ref 1000), (1, .ref 0), (2, .ref 64), (3, .int (nI (5 * (i + 1))))]) (st2 := []) (w2 := _) (by rw [show 5 * (i + 1) = 5 * i + 5 by omega, ← nI_add (5 * i) 5]; rfl) rfl rfl ?_
          exact ih18 _ _ _ _ _ _ R2
        · exact absurd rfl h373
      refine And.intro (fun h32_6 => ?_) (fun h32_6 => ?_)
      · obtain ⟨A, Z, hA, hB⟩ := pp_cracks (G := G) (t := t) R (G.2.2.2.1 (5 * i + 1))
        refine tg_steps 5 rfl ?_
        refine tg_sldN rfl (5 * i + 1) (nI_add (5 * i) 1) (by omega) hL ?_
        refine tg_callV rfl (hA) rfl rfl rfl rfl rfl (fun v384 w384 q384 => ?_)
        obtain ⟨rfl, n2, p2, t2, x2, rfl, z2⟩ := q384
        refine tg_steps 5 rfl ?_
        refine tg_sldN rfl (5 * i + 1) (nI_add (5 * i) 1) (by omega) hL ?_
        refine tg_callV rfl (hB _ _ t2 _ z2) rfl rfl rfl rfl rfl (fun v393 w393 q393 => ?_)
        obtain ⟨rfl, h2, y2, rfl, R2⟩ := q393
        refine tg_iceq rfl rfl (fun h396 => ?_) (fun h396 => ?_)
        · refine tg_steps 2 rfl ?_
          refine tg_pkV [0, 1, 2, 3] ?_
          refine tg_eqS (L2 := [(0, .ref 1000), (1, .ref 0), (2, .ref 64), (3, .int (nI (5 * (i + 1))))]) (st2 := []) (w2 := _) (by rw [show 5 * (i + 1) = 5 * i + 5 by omega, ← nI_add (5 * i) 5]; rfl) rfl rfl ?_
          exact ih18 _ _ _ _ _ _ R2
        · exact absurd rfl h396
      refine And.intro (fun h32_7 => ?_) (fun h32_7 => ?_)
      · obtain ⟨A, Z, hA, hB⟩ := pp_ship (G := G) (t := t) R (G.2.2.2.1 (5 * i + 1))
        refine tg_steps 5 rfl ?_
        refine tg_sldN rfl (5 * i + 1) (nI_add (5 * i) 1) (by omega) hL ?_
        refine tg_callV rfl (hA) rfl rfl rfl rfl rfl (fun v407 w407 q407 => ?_)
        obtain ⟨rfl, n2, p2, t2, x2, rfl, z2⟩ := q407
        refine tg_steps 5 rfl ?_
        refine tg_sldN rfl (5 * i + 1) (nI_add (5 * i) 1) (by omega) hL ?_
        refine tg_callV rfl (hB _ _ t2 _ z2) rfl rfl rfl rfl rfl (fun v416 w416 q416 => ?_)
        obtain ⟨rfl, h2, y2, rfl, R2⟩ := q416
        refine tg_iceq rfl rfl (fun h419 => ?_) (fun h419 => ?_)
        · refine tg_steps 2 rfl ?_
          refine tg_pkV [0, 1, 2, 3] ?_
          refine tg_eqS (L2 := [(0, .ref 1000), (1, .ref 0), (2, .ref 64), (3, .int (nI (5 * (i + 1))))]) (st2 := []) (w2 := _) (by rw [show 5 * (i + 1) = 5 * i + 5 by omega, ← nI_add (5 * i) 5]; rfl) rfl rfl ?_
          exact ih18 _ _ _ _ _ _ R2
        · exact absurd rfl h419
      refine And.intro (fun h32_8 => ?_) (fun h32_8 => ?_)
      · obtain ⟨A, Z, hA, hB⟩ := pp_pins (G := G) (t := t) R (G.2.2.2.1 (5 * i + 1)) (G.2.2.2.1 (5 * i + 2))
        refine tg_steps 5 rfl ?_
        refine tg_sldN rfl (5 * i + 1) (nI_add (5 * i) 1) (by omega) hL ?_
        refine tg_steps 4 rfl ?_
        refine tg_sldN rfl (5 * i + 2) (nI_add (5 * i) 2) (by omega) hL ?_
        refine tg_callV rfl (hA) rfl rfl rfl rfl rfl (fun v435 w435 q435 => ?_)
        obtain ⟨rfl, n2, p2, t2, x2, rfl, z2⟩ := q435
        refine tg_steps 5 rfl ?_
        refine tg_sldN rfl (5 * i + 1) (nI_add (5 * i) 1) (by omega) hL ?_
        refine tg_steps 4 rfl ?_
        refine tg_sldN rfl (5 * i + 2) (nI_add (5 * i) 2) (by omega) hL ?_
        refine tg_callV rfl (hB _ _ t2 _ z2) rfl rfl rfl rfl rfl (fun v449 w449 q449 => ?_)
        obtain ⟨rfl, h2, y2, rfl, R2⟩ := q449
        refine tg_iceq rfl rfl (fun h452 => ?_) (fun h452 => ?_)
        · refine tg_steps 2 rfl ?_
          refine tg_pkV [0, 1, 2, 3] ?_
          refine tg_eqS (L2 := [(0, .ref 1000), (1, .ref 0), (2, .ref 64), (3, .int (nI (5 * (i + 1))))]) (st2 := []) (w2 := _) (by rw [show 5 * (i + 1) = 5 * i + 5 by omega, ← nI_add (5 * i) 5]; rfl) rfl rfl ?_
          exact ih18 _ _ _ _ _ _ R2
        · exact absurd rfl h452
      refine And.intro (fun h32_9 => ?_) (fun h32_9 => ?_)
      · obtain ⟨A, Z, hA, hB⟩ := pp_turn (G := G) (t := t) R (G.2.2.2.1 (5 * i + 1)) (G.2.2.2.1 (5 * i + 2)) (G.2.2.2.1 (5 * i + 3))
        refine tg_steps 5 rfl ?_
        refine tg_sldN rfl (5 * i + 1) (nI_add (5 * i) 1) (by omega) hL ?_
        refine tg_steps 4 rfl ?_
        refine tg_sldN rfl (5 * i + 2) (nI_add (5 * i) 2) (by omega) hL ?_
        refine tg_steps 4 rfl ?_
        refine tg_sldN rfl (5 * i + 3) (nI_add (5 * i) 3) (by omega) hL ?_
        refine tg_callV rfl (hA) rfl rfl rfl rfl rfl (fun v473 w473 q473 => ?_)
        obtain ⟨rfl, n2, p2, t2, x2, rfl, z2⟩ := q473
        refine tg_steps 5 rfl ?_
        refine tg_sldN rfl (5 * i + 1) (nI_add (5 * i) 1) (by omega) hL ?_
        refine tg_steps 4 rfl ?_
        refine tg_sldN rfl (5 * i + 2) (nI_add (5 * i) 2) (by omega) hL ?_
        refine tg_steps 4 rfl ?_
        refine tg_sldN rfl (5 * i + 3) (nI_add (5 * i) 3) (by omega) hL ?_
        refine tg_callV rfl (hB _ _ t2 _ z2) rfl rfl rfl rfl rfl (fun v492 w492 q492 => ?_)
        obtain ⟨rfl, h2, y2, rfl, R2⟩ := q492
        refine tg_iceq rfl rfl (fun h495 => ?_) (fun h495 => ?_)
        · refine tg_steps 2 rfl ?_
          refine tg_pkV [0, 1, 2, 3] ?_
          refine tg_eqS (L2 := [(0, .ref 1000), (1, .ref 0), (2, .ref 64), (3, .int (nI (5 * (i + 1))))]) (st2 := []) (w2 := _) (by rw [show 5 * (i + 1) = 5 * i + 5 by omega, ← nI_add (5 * i) 5]; rfl) rfl rfl ?_
          exact ih18 _ _ _ _ _ _ R2
        · exact absurd rfl h495
      refine And.intro (fun h32_10 => ?_) (fun h32_10 => ?_)
      · obtain ⟨A, Z, hA, hB⟩ := pp_nights (G := G) (t := t) R (G.2.2.2.1 (5 * i + 1))
        refine tg_steps 5 rfl ?_
        refine tg_sldN rfl (5 * i + 1) (nI_add (5 * i) 1) (by omega) hL ?_
        refine tg_callV rfl (hA) rfl rfl rfl rfl rfl (fun v506 w506 q506 => ?_)
        obtain ⟨rfl, n2, p2, t2, x2, rfl, z2⟩ := q506
        refine tg_steps 5 rfl ?_
        refine tg_sldN rfl (5 * i + 1) (nI_add (5 * i) 1) (by omega) hL ?_
        refine tg_callV rfl (hB _ _ t2 _ z2) rfl rfl rfl rfl rfl (fun v515 w515 q515 => ?_)
        obtain ⟨rfl, h2, y2, rfl, R2⟩ := q515
        refine tg_iceq rfl rfl (fun h518 => ?_) (fun h518 => ?_)
        · refine tg_steps 2 rfl ?_
          refine tg_pkV [0, 1, 2, 3] ?_
          refine tg_eqS (L2 := [(0, .ref 1000), (1, .ref 0), (2, .ref 64), (3, .int (nI (5 * (i + 1))))]) (st2 := []) (w2 := _) (by rw [show 5 * (i + 1) = 5 * i + 5 by omega, ← nI_add (5 * i) 5]; rfl) rfl rfl ?_
          exact ih18 _ _ _ _ _ _ R2
        · exact absurd rfl h518
      refine And.intro (fun h32_11 => ?_) (fun h32_11 => ?_)
      · obtain ⟨A, Z, hA, hB⟩ := pp_oneThen (G := G) (t := t) R (G.2.2.2.1 (5 * i + 1)) (G.2.2.2.1 (5 * i + 2)) (G.2.2.2.1 (5 * i + 3))
        refine tg_steps 5 rfl ?_
        refine tg_sldN rfl (5 * i + 1) (nI_add (5 * i) 1) (by omega) hL ?_
        refine tg_steps 4 rfl ?_
        refine tg_sldN rfl (5 * i + 2) (nI_add (5 * i) 2) (by omega) hL ?_
        refine tg_steps 4 rfl ?_
        refine tg_sldN rfl (5 * i + 3) (nI_add (5 * i) 3) (by omega) hL ?_
        refine tg_callV rfl (hA) rfl rfl rfl rfl rfl (fun v539 w539 q539 => ?_)
        obtain ⟨rfl, n2, p2, t2, x2, rfl, z2⟩ := q539
        refine tg_steps 5 rfl ?_
        refine tg_sldN rfl (5 * i + 1) (nI_add (5 * i) 1) (by omega) hL ?_
        refine tg_steps 4 rfl ?_
        refine tg_sldN rfl (5 * i + 2) (nI_add (5 * i) 2) (by omega) hL ?_
        refine tg_steps 4 rfl ?_
        refine tg_sldN rfl (5 * i + 3) (nI_add (5 * i) 3) (by omega) hL ?_
        refine tg_callV rfl (hB _ _ t2 _ z2) rfl rfl rfl rfl rfl (fun v558 w558 q558 => ?_)
        obtain ⟨rfl, h2, y2, rfl, R2⟩ := q558
        refine tg_iceq rfl rfl (fun h561 => ?_) (fun h561 => ?_)
        · refine tg_steps 2 rfl ?_
          refine tg_pkV [0, 1, 2, 3] ?_
          refine tg_eqS (L2 := [(0, .ref 1000), (1, .ref 0), (2, .ref 64), (3, .int (nI (5 * (i + 1))))]) (st2 := []) (w2 := _) (by rw [show 5 * (i + 1) = 5 * i + 5 by omega, ← nI_add (5 * i) 5]; rfl) rfl rfl ?_
          exact ih18 _ _ _ _ _ _ R2
        · exact absurd rfl h561
      refine And.intro (fun h32_12 => ?_) (fun h32_12 => ?_)
      · obtain ⟨A, Z, hA, hB⟩ := pp_aboard (G := G) (t := t) R (G.2.2.2.1 (5 * i + 1))
        refine tg_steps 5 rfl ?_
        refine tg_sldN rfl (5 * i + 1) (nI_add (5 * i) 1) (by omega) hL ?_
        refine tg_callV rfl (hA) rfl rfl rfl rfl rfl (fun v572 w572 q572 => ?_)
        obtain ⟨rfl, n2, p2, t2, x2, rfl, z2⟩ := q572
        refine tg_steps 5 rfl ?_
        refine tg_sldN rfl (5 * i + 1) (nI_add (5 * i) 1) (by omega) hL ?_
        refine tg_callV rfl (hB _ _ t2 _ z2) rfl rfl rfl rfl rfl (fun v581 w581 q581 => ?_)
        obtain ⟨rfl, h2, y2, rfl, R2⟩ := q581
        refine tg_iceq rfl rfl (fun h584 => ?_) (fun h584 => ?_)
        · refine tg_steps 2 rfl ?_
          refine tg_pkV [0, 1, 2, 3] ?_
          refine tg_eqS (L2 := [(0, .ref 1000), (1, .ref 0), (2, .ref 64), (3, .int (nI (5 * (i + 1))))]) (st2 := []) (w2 := _) (by rw [show 5 * (i + 1) = 5 * i + 5 by omega, ← nI_add (5 * i) 5]; rfl) rfl rfl ?_
          exact ih18 _ _ _ _ _ _ R2
        · exact absurd rfl h584
      refine And.intro (fun h32_13 => ?_) (fun h32_13 => ?_)
      · obtain ⟨A, Z, hA, hB⟩ := pp_comes (G := G) (t := t) R (G.2.2.2.1 (5 * i + 1)) (G.2.2.2.1 (5 * i + 2))
        refine tg_steps 5 rfl ?_
        refine tg_sldN rfl (5 * i + 1) (nI_add (5 * i) 1) (by omega) hL ?_
        refine tg_steps 4 rfl ?_
        refine tg_sldN rfl (5 * i + 2) (nI_add (5 * i) 2) (by omega) hL ?_
        refine tg_callV rfl (hA) rfl rfl rfl rfl rfl (fun v600 w600 q600 => ?_)
        obtain ⟨rfl, n2, p2, t2, x2, rfl, z2⟩ := q600
        refine tg_steps 5 rfl ?_
        refine tg_sldN rfl (5 * i + 1) (nI_add (5 * i) 1) (by omega) hL ?_
        refine tg_steps 4 rfl ?_
        refine tg_sldN rfl (5 * i + 2) (nI_add (5 * i) 2) (by omega) hL ?_
        refine tg_callV rfl (hB _ _ t2 _ z2) rfl rfl rfl rfl rfl (fun v614 w614 q614 => ?_)
        obtain ⟨rfl, h2, y2, rfl, R2⟩ := q614
        refine tg_iceq rfl rfl (fun h617 => ?_) (fun h617 => ?_)
        · refine tg_steps 2 rfl ?_
          refine tg_pkV [0, 1, 2, 3] ?_
          refine tg_eqS (L2 := [(0, .ref 1000), (1, .ref 0), (2, .ref 64), (3, .int (nI (5 * (i + 1))))]) (st2 := []) (w2 := _) (by rw [show 5 * (i + 1) = 5 * i + 5 by omega, ← nI_add (5 * i) 5]; rfl) rfl rfl ?_
          exact ih18 _ _ _ _ _ _ R2
        · exact absurd rfl h617
      refine And.intro (fun h32_14 => ?_) (fun h32_14 => ?_)
      · obtain ⟨A, Z, hA, hB⟩ := pp_sails (G := G) (t := t) R (G.2.2.2.1 (5 * i + 1))
        refine tg_steps 5 rfl ?_
        refine tg_sldN rfl (5 * i + 1) (nI_add (5 * i) 1) (by omega) hL ?_
        refine tg_callV rfl (hA) rfl rfl rfl rfl rfl (fun v628 w628 q628 => ?_)
        obtain ⟨rfl, n2, p2, t2, x2, rfl, z2⟩ := q628
        refine tg_steps 5 rfl ?_
        refine tg_sldN rfl (5 * i + 1) (nI_add (5 * i) 1) (by omega) hL ?_
        refine tg_callV rfl (hB _ _ t2 _ z2) rfl rfl rfl rfl rfl (fun v637 w637 q637 => ?_)
        obtain ⟨rfl, h2, y2, rfl, R2⟩ := q637
        refine tg_iceq rfl rfl (fun h640 => ?_) (fun h640 => ?_)
        · refine tg_steps 2 rfl ?_
          refine tg_pkV [0, 1, 2, 3] ?_
          refine tg_eqS (L2 := [(0, .ref 1000), (1, .ref 0), (2, .ref 64), (3, .int (nI (5 * (i + 1))))]) (st2 := []) (w2 := _) (by rw [show 5 * (i + 1) = 5 * i + 5 by omega, ← nI_add (5 * i) 5]; rfl) rfl rfl ?_
          exact ih18 _ _ _ _ _ _ R2
        · exact absurd rfl h640
      refine And.intro (fun h32_15 => ?_) (fun h32_15 => ?_)
      · obtain ⟨A, Z, hA, hB⟩ := pp_meets (G := G) (t := t) R (G.2.2.2.1 (5 * i + 1)) (G.2.2.2.1 (5 * i + 2))
        refine tg_steps 5 rfl ?_
        refine tg_sldN rfl (5 * i + 1) (nI_add (5 * i) 1) (by omega) hL ?_
        refine tg_steps 4 rfl ?_
        refine tg_sldN rfl (5 * i + 2) (nI_add (5 * i) 2) (by omega) hL ?_
        refine tg_callV rfl (hA) rfl rfl rfl rfl rfl (fun v656 w656 q656 => ?_)
        obtain ⟨rfl, n2, p2, t2, x2, rfl, z2⟩ := q656
        refine tg_steps 5 rfl ?_
        refine tg_sldN rfl (5 * i + 1) (nI_add (5 * i) 1) (by omega) hL ?_
        refine tg_steps 4 rfl ?_
        refine tg_sldN rfl (5 * i + 2) (nI_add (5 * i) 2) (by omega) hL ?_
        refine tg_callV rfl (hB _ _ t2 _ z2) rfl rfl rfl rfl rfl (fun v670 w670 q670 => ?_)
        obtain ⟨rfl, h2, y2, rfl, R2⟩ := q670
        refine tg_iceq rfl rfl (fun h673 => ?_) (fun h673 => ?_)
        · refine tg_steps 2 rfl ?_
          refine tg_pkV [0, 1, 2, 3] ?_
          refine tg_eqS (L2 := [(0, .ref 1000), (1, .ref 0), (2, .ref 64), (3, .int (nI (5 * (i + 1))))]) (st2 := []) (w2 := _) (by rw [show 5 * (i + 1) = 5 * i + 5 by omega, ← nI_add (5 * i) 5]; rfl) rfl rfl ?_
          exact ih18 _ _ _ _ _ _ R2
        · exact absurd rfl h673
      refine And.intro (fun h32_16 => ?_) (fun h32_16 => ?_)
      · obtain ⟨A, Z, hA, hB⟩ := pp_still (G := G) (t := t) R 
        refine tg_steps 1 rfl ?_
        refine tg_callV rfl (hA) rfl rfl rfl rfl rfl (fun v679 w679 q679 => ?_)
        obtain ⟨rfl, n2, p2, t2, x2, rfl, z2⟩ := q679
        refine tg_steps 1 rfl ?_
        refine tg_callV rfl (hB _ _ t2 _ z2) rfl rfl rfl rfl rfl (fun v683 w683 q683 => ?_)
        obtain ⟨rfl, h2, y2, rfl, R2⟩ := q683
        refine tg_iceq rfl rfl (fun h686 => ?_) (fun h686 => ?_)
        · refine tg_steps 2 rfl ?_
          refine tg_pkV [0, 1, 2, 3] ?_
          refine tg_eqS (L2 := [(0, .ref 1000), (1, .ref 0), (2, .ref 64), (3, .int (nI (5 * (i + 1))))]) (st2 := []) (w2 := _) (by rw [show 5 * (i + 1) = 5 * i + 5 by omega, ← nI_add (5 * i) 5]; rfl) rfl rfl ?_
          exact ih18 _ _ _ _ _ _ R2
        · exact absurd rfl h686
      refine And.intro (fun h32_17 => ?_) (fun h32_17 => ?_)
      · obtain ⟨A, Z, hA, hB⟩ := pp_far (G := G) (t := t) R (G.2.2.2.1 (5 * i + 1)) (G.2.2.2.1 (5 * i + 2))
        refine tg_steps 5 rfl ?_
        refine tg_sldN rfl (5 * i + 1) (nI_add (5 * i) 1) (by omega) hL ?_
        refine tg_steps 4 rfl ?_
        refine tg_sldN rfl (5 * i + 2) (nI_add (5 * i) 2) (by omega) hL ?_
        refine tg_callV rfl (hA) rfl rfl rfl rfl rfl (fun v702 w702 q702 => ?_)
        obtain ⟨rfl, n2, p2, t2, x2, rfl, z2⟩ := q702
        refine tg_steps 5 rfl ?_
        refine tg_sldN rfl (5 * i + 1) (nI_add (5 * i) 1) (by omega) hL ?_
        refine tg_steps 4 rfl ?_
        refine tg_sldN rfl (5 * i + 2) (nI_add (5 * i) 2) (by omega) hL ?_
        refine tg_callV rfl (hB _ _ t2 _ z2) rfl rfl rfl rfl rfl (fun v716 w716 q716 => ?_)
        obtain ⟨rfl, h2, y2, rfl, R2⟩ := q716
        refine tg_iceq rfl rfl (fun h719 => ?_) (fun h719 => ?_)
        · refine tg_steps 2 rfl ?_
          refine tg_pkV [0, 1, 2, 3] ?_
          refine tg_eqS (L2 := [(0, .ref 1000), (1, .ref 0), (2, .ref 64), (3, .int (nI (5 * (i + 1))))]) (st2 := []) (w2 := _) (by rw [show 5 * (i + 1) = 5 * i + 5 by omega, ← nI_add (5 * i) 5]; rfl) rfl rfl ?_
          exact ih18 _ _ _ _ _ _ R2
        · exact absurd rfl h719
      refine And.intro (fun h32_18 => ?_) (fun h32_18 => ?_)
      · obtain ⟨A, Z, hA, hB⟩ := pp_cutOff (G := G) (t := t) R 
        refine tg_steps 1 rfl ?_
        refine tg_callV rfl (hA) rfl rfl rfl rfl rfl (fun v725 w725 q725 => ?_)
        obtain ⟨rfl, n2, p2, t2, x2, rfl, z2⟩ := q725
        refine tg_steps 1 rfl ?_
        refine tg_callV rfl (hB _ _ t2 _ z2) rfl rfl rfl rfl rfl (fun v729 w729 q729 => ?_)
        obtain ⟨rfl, h2, y2, rfl, R2⟩ := q729
        refine tg_iceq rfl rfl (fun h732 => ?_) (fun h732 => ?_)
        · refine tg_steps 2 rfl ?_
          refine tg_pkV [0, 1, 2, 3] ?_
          refine tg_eqS (L2 := [(0, .ref 1000), (1, .ref 0), (2, .ref 64), (3, .int (nI (5 * (i + 1))))]) (st2 := []) (w2 := _) (by rw [show 5 * (i + 1) = 5 * i + 5 by omega, ← nI_add (5 * i) 5]; rfl) rfl rfl ?_
          exact ih18 _ _ _ _ _ _ R2
        · exact absurd rfl h732
      refine And.intro (fun h32_19 => ?_) (fun h32_19 => ?_)
      · obtain ⟨A, Z, hA, hB⟩ := pp_shipBest (G := G) (t := t) R (G.2.2.2.1 (5 * i + 1)) (G.2.2.2.1 (5 * i + 2))
        refine tg_steps 5 rfl ?_
        refine tg_sldN rfl (5 * i + 1) (nI_add (5 * i) 1) (by omega) hL ?_
        refine tg_steps 4 rfl ?_
        refine tg_sldN rfl (5 * i + 2) (nI_add (5 * i) 2) (by omega) hL ?_
        refine tg_callV rfl (hA) rfl rfl rfl rfl rfl (fun v748 w748 q748 => ?_)
        obtain ⟨rfl, n2, p2, t2, x2, rfl, z2⟩ := q748
        refine tg_steps 5 rfl ?_
        refine tg_sldN rfl (5 * i + 1) (nI_add (5 * i) 1) (by omega) hL ?_
        refine tg_steps 4 rfl ?_
        refine tg_sldN rfl (5 * i + 2) (nI_add (5 * i) 2) (by omega) hL ?_
        refine tg_callV rfl (hB _ _ t2 _ z2) rfl rfl rfl rfl rfl (fun v762 w762 q762 => ?_)
        obtain ⟨rfl, h2, y2, rfl, R2⟩ := q762
        refine tg_iceq rfl rfl (fun h765 => ?_) (fun h765 => ?_)
        · refine tg_steps 2 rfl ?_
          refine tg_pkV [0, 1, 2, 3] ?_
          refine tg_eqS (L2 := [(0, .ref 1000), (1, .ref 0), (2, .ref 64), (3, .int (nI (5 * (i + 1))))]) (st2 := []) (w2 := _) (by rw [show 5 * (i + 1) = 5 * i + 5 by omega, ← nI_add (5 * i) 5]; rfl) rfl rfl ?_
          exact ih18 _ _ _ _ _ _ R2
        · exact absurd rfl h765
      refine And.intro (fun h32_20 => ?_) (fun h32_20 => ?_)
      · obtain ⟨A, Z, hA, hB⟩ := pp_mend (G := G) (t := t) R (G.2.2.2.1 (5 * i + 1)) (G.2.2.2.1 (5 * i + 2))
        refine tg_steps 5 rfl ?_
        refine tg_sldN rfl (5 * i + 1) (nI_add (5 * i) 1) (by omega) hL ?_
        refine tg_steps 4 rfl ?_
        refine tg_sldN rfl (5 * i + 2) (nI_add (5 * i) 2) (by omega) hL ?_
        refine tg_callV rfl (hA) rfl rfl rfl rfl rfl (fun v781 w781 q781 => ?_)
        obtain ⟨rfl, n2, p2, t2, x2, rfl, z2⟩ := q781
        refine tg_steps 5 rfl ?_
        refine tg_sldN rfl (5 * i + 1) (nI_add (5 * i) 1) (by omega) hL ?_
        refine tg_steps 4 rfl ?_
        refine tg_sldN rfl (5 * i + 2) (nI_add (5 * i) 2) (by omega) hL ?_
        refine tg_callV rfl (hB _ _ t2 _ z2) rfl rfl rfl rfl rfl (fun v795 w795 q795 => ?_)
        obtain ⟨rfl, h2, y2, rfl, R2⟩ := q795
        refine tg_iceq rfl rfl (fun h798 => ?_) (fun h798 => ?_)
        · refine tg_steps 2 rfl ?_
          refine tg_pkV [0, 1, 2, 3] ?_
          refine tg_eqS (L2 := [(0, .ref 1000), (1, .ref 0), (2, .ref 64), (3, .int (nI (5 * (i + 1))))]) (st2 := []) (w2 := _) (by rw [show 5 * (i + 1) = 5 * i + 5 by omega, ← nI_add (5 * i) 5]; rfl) rfl rfl ?_
          exact ih18 _ _ _ _ _ _ R2
        · exact absurd rfl h798
      refine And.intro (fun h32_21 => ?_) (fun h32_21 => ?_)
      · obtain ⟨A, Z, hA, hB⟩ := pp_pin (G := G) (t := t) R (G.2.2.2.1 (5 * i + 1))
        refine tg_steps 5 rfl ?_
        refine tg_sldN rfl (5 * i + 1) (nI_add (5 * i) 1) (by omega) hL ?_
        refine tg_callV rfl (hA) rfl rfl rfl rfl rfl (fun v809 w809 q809 => ?_)
        obtain ⟨rfl, n2, p2, t2, x2, rfl, z2⟩ := q809
        refine tg_steps 5 rfl ?_
        refine tg_sldN rfl (5 * i + 1) (nI_add (5 * i) 1) (by omega) hL ?_
        refine tg_callV rfl (hB _ _ t2 _ z2) rfl rfl rfl rfl rfl (fun v818 w818 q818 => ?_)
        obtain ⟨rfl, h2, y2, rfl, R2⟩ := q818
        refine tg_iceq rfl rfl (fun h821 => ?_) (fun h821 => ?_)
        · refine tg_steps 2 rfl ?_
          refine tg_pkV [0, 1, 2, 3] ?_
          refine tg_eqS (L2 := [(0, .ref 1000), (1, .ref 0), (2, .ref 64), (3, .int (nI (5 * (i + 1))))]) (st2 := []) (w2 := _) (by rw [show 5 * (i + 1) = 5 * i + 5 by omega, ← nI_add (5 * i) 5]; rfl) rfl rfl ?_
          exact ih18 _ _ _ _ _ _ R2
        · exact absurd rfl h821
      refine And.intro (fun h32_22 => ?_) (fun h32_22 => ?_)
      · obtain ⟨A, Z, hA, hB⟩ := pp_fewest (G := G) (t := t) R (G.2.2.2.1 (5 * i + 1))
        refine tg_steps 5 rfl ?_
        refine tg_sldN rfl (5 * i + 1) (nI_add (5 * i) 1) (by omega) hL ?_
        refine tg_callV rfl (hA) rfl rfl rfl rfl rfl (fun v832 w832 q832 => ?_)
        obtain ⟨rfl, n2, p2, t2, x2, rfl, z2⟩ := q832
        refine tg_steps 5 rfl ?_
        refine tg_sldN rfl (5 * i + 1) (nI_add (5 * i) 1) (by omega) hL ?_
        refine tg_callV rfl (hB _ _ t2 _ z2) rfl rfl rfl rfl rfl (fun v841 w841 q841 => ?_)
        obtain ⟨rfl, h2, y2, rfl, R2⟩ := q841
        refine tg_iceq rfl rfl (fun h844 => ?_) (fun h844 => ?_)
        · refine tg_steps 2 rfl ?_
          refine tg_pkV [0, 1, 2, 3] ?_
          refine tg_eqS (L2 := [(0, .ref 1000), (1, .ref 0), (2, .ref 64), (3, .int (nI (5 * (i + 1))))]) (st2 := []) (w2 := _) (by rw [show 5 * (i + 1) = 5 * i + 5 by omega, ← nI_add (5 * i) 5]; rfl) rfl rfl ?_
          exact ih18 _ _ _ _ _ _ R2
        · exact absurd rfl h844
      refine And.intro (fun h32_23 => ?_) (fun h32_23 => ?_)
      · obtain ⟨A, Z, hA, hB⟩ := pp_bestKind (G := G) (t := t) R (G.2.2.2.1 (5 * i + 1)) (G.2.2.2.1 (5 * i + 2))
        refine tg_steps 5 rfl ?_
        refine tg_sldN rfl (5 * i + 1) (nI_add (5 * i) 1) (by omega) hL ?_
        refine tg_steps 4 rfl ?_
        refine tg_sldN rfl (5 * i + 2) (nI_add (5 * i) 2) (by omega) hL ?_
        refine tg_callV rfl (hA) rfl rfl rfl rfl rfl (fun v860 w860 q860 => ?_)
        obtain ⟨rfl, n2, p2, t2, x2, rfl, z2⟩ := q860
        refine tg_steps 5 rfl ?_
        refine tg_sldN rfl (5 * i + 1) (nI_add (5 * i) 1) (by omega) hL ?_
        refine tg_steps 4 rfl ?_
        refine tg_sldN rfl (5 * i + 2) (nI_add (5 * i) 2) (by omega) hL ?_
        refine tg_callV rfl (hB _ _ t2 _ z2) rfl rfl rfl rfl rfl (fun v874 w874 q874 => ?_)
        obtain ⟨rfl, h2, y2, rfl, R2⟩ := q874
        refine tg_iceq rfl rfl (fun h877 => ?_) (fun h877 => ?_)
        · refine tg_steps 2 rfl ?_
          refine tg_pkV [0, 1, 2, 3] ?_
          refine tg_eqS (L2 := [(0, .ref 1000), (1, .ref 0), (2, .ref 64), (3, .int (nI (5 * (i + 1))))]) (st2 := []) (w2 := _) (by rw [show 5 * (i + 1) = 5 * i + 5 by omega, ← nI_add (5 * i) 5]; rfl) rfl rfl ?_
          exact ih18 _ _ _ _ _ _ R2
        · exact absurd rfl h877
      refine And.intro (fun h32_24 => ?_) (fun h32_24 => ?_)
      · obtain ⟨A, Z, hA, hB⟩ := pp_crowd (G := G) (t := t) R (G.2.2.2.1 (5 * i + 1))
        refine tg_steps 5 rfl ?_
        refine tg_sldN rfl (5 * i + 1) (nI_add (5 * i) 1) (by omega) hL ?_
        refine tg_callV rfl (hA) rfl rfl rfl rfl rfl (fun v888 w888 q888 => ?_)
        obtain ⟨rfl, n2, p2, t2, x2, rfl, z2⟩ := q888
        refine tg_steps 5 rfl ?_
        refine tg_sldN rfl (5 * i + 1) (nI_add (5 * i) 1) (by omega) hL ?_
        refine tg_callV rfl (hB _ _ t2 _ z2) rfl rfl rfl rfl rfl (fun v897 w897 q897 => ?_)
        obtain ⟨rfl, h2, y2, rfl, R2⟩ := q897
        refine tg_iceq rfl rfl (fun h900 => ?_) (fun h900 => ?_)
        · refine tg_steps 2 rfl ?_
          refine tg_pkV [0, 1, 2, 3] ?_
          refine tg_eqS (L2 := [(0, .ref 1000), (1, .ref 0), (2, .ref 64), (3, .int (nI (5 * (i + 1))))]) (st2 := []) (w2 := _) (by rw [show 5 * (i + 1) = 5 * i + 5 by omega, ← nI_add (5 * i) 5]; rfl) rfl rfl ?_
          exact ih18 _ _ _ _ _ _ R2
        · exact absurd rfl h900
      refine And.intro (fun h32_25 => ?_) (fun h32_25 => ?_)
      · obtain ⟨A, Z, hA, hB⟩ := pp_farthest (G := G) (t := t) R (G.2.2.2.1 (5 * i + 1))
        refine tg_steps 5 rfl ?_
        refine tg_sldN rfl (5 * i + 1) (nI_add (5 * i) 1) (by omega) hL ?_
        refine tg_callV rfl (hA) rfl rfl rfl rfl rfl (fun v911 w911 q911 => ?_)
        obtain ⟨rfl, n2, p2, t2, x2, rfl, z2⟩ := q911
        refine tg_steps 5 rfl ?_
        refine tg_sldN rfl (5 * i + 1) (nI_add (5 * i) 1) (by omega) hL ?_
        refine tg_callV rfl (hB _ _ t2 _ z2) rfl rfl rfl rfl rfl (fun v920 w920 q920 => ?_)
        obtain ⟨rfl, h2, y2, rfl, R2⟩ := q920
        refine tg_iceq rfl rfl (fun h923 => ?_) (fun h923 => ?_)
        · refine tg_steps 2 rfl ?_
          refine tg_pkV [0, 1, 2, 3] ?_
          refine tg_eqS (L2 := [(0, .ref 1000), (1, .ref 0), (2, .ref 64), (3, .int (nI (5 * (i + 1))))]) (st2 := []) (w2 := _) (by rw [show 5 * (i + 1) = 5 * i + 5 by omega, ← nI_add (5 * i) 5]; rfl) rfl rfl ?_
          exact ih18 _ _ _ _ _ _ R2
        · exact absurd rfl h923
      refine And.intro (fun h32_26 => ?_) (fun h32_26 => ?_)
      · obtain ⟨A, Z, hA, hB⟩ := pp_order (G := G) (t := t) R (G.2.2.2.1 (5 * i + 1))
        refine tg_steps 5 rfl ?_
        refine tg_sldN rfl (5 * i + 1) (nI_add (5 * i) 1) (by omega) hL ?_
        refine tg_callV rfl (hA) rfl rfl rfl rfl rfl (fun v934 w934 q934 => ?_)
        obtain ⟨rfl, n2, p2, t2, x2, rfl, z2⟩ := q934
        refine tg_steps 5 rfl ?_
        refine tg_sldN rfl (5 * i + 1) (nI_add (5 * i) 1) (by omega) hL ?_
        refine tg_callV rfl (hB _ _ t2 _ z2) rfl rfl rfl rfl rfl (fun v943 w943 q943 => ?_)
        obtain ⟨rfl, h2, y2, rfl, R2⟩ := q943
        refine tg_iceq rfl rfl (fun h946 => ?_) (fun h946 => ?_)
        · refine tg_steps 2 rfl ?_
          refine tg_pkV [0, 1, 2, 3] ?_
          refine tg_eqS (L2 := [(0, .ref 1000), (1, .ref 0), (2, .ref 64), (3, .int (nI (5 * (i + 1))))]) (st2 := []) (w2 := _) (by rw [show 5 * (i + 1) = 5 * i + 5 by omega, ← nI_add (5 * i) 5]; rfl) rfl rfl ?_
          exact ih18 _ _ _ _ _ _ R2
        · exact absurd rfl h946
      refine And.intro (fun h32_27 => ?_) (fun h32_27 => ?_)
      · obtain ⟨A, Z, hA, hB⟩ := pp_two (G := G) (t := t) R (G.2.2.2.1 (5 * i + 1)) (G.2.2.2.1 (5 * i + 2)) (G.2.2.2.1 (5 * i + 3))
        refine tg_steps 5 rfl ?_
        refine tg_sldN rfl (5 * i + 1) (nI_add (5 * i) 1) (by omega) hL ?_
        refine tg_steps 4 rfl ?_
        refine tg_sldN rfl (5 * i + 2) (nI_add (5 * i) 2) (by omega) hL ?_
        refine tg_steps 4 rfl ?_
        refine tg_sldN rfl (5 * i + 3) (nI_add (5 * i) 3) (by omega) hL ?_
        refine tg_callV rfl (hA) rfl rfl rfl rfl rfl (fun v967 w967 q967 => ?_)
        obtain ⟨rfl, n2, p2, t2, x2, rfl, z2⟩ := q967
        refine tg_steps 5 rfl ?_
        refine tg_sldN rfl (5 * i + 1) (nI_add (5 * i) 1) (by omega) hL ?_
        refine tg_steps 4 rfl ?_
        refine tg_sldN rfl (5 * i + 2) (nI_add (5 * i) 2) (by omega) hL ?_
        refine tg_steps 4 rfl ?_
        refine tg_sldN rfl (5 * i + 3) (nI_add (5 * i) 3) (by omega) hL ?_
        refine tg_callV rfl (hB _ _ t2 _ z2) rfl rfl rfl rfl rfl (fun v986 w986 q986 => ?_)
        obtain ⟨rfl, h2, y2, rfl, R2⟩ := q986
        refine tg_iceq rfl rfl (fun h989 => ?_) (fun h989 => ?_)
        · refine tg_steps 2 rfl ?_
          refine tg_pkV [0, 1, 2, 3] ?_
          refine tg_eqS (L2 := [(0, .ref 1000), (1, .ref 0), (2, .ref 64), (3, .int (nI (5 * (i + 1))))]) (st2 := []) (w2 := _) (by rw [show 5 * (i + 1) = 5 * i + 5 by omega, ← nI_add (5 * i) 5]; rfl) rfl rfl ?_
          exact ih18 _ _ _ _ _ _ R2
        · exact absurd rfl h989
      refine And.intro (fun h32_28 => ?_) (fun h32_28 => ?_)
      · obtain ⟨A, Z, hA, hB⟩ := pp_coals (G := G) (t := t) R (G.2.2.2.1 (5 * i + 1)) (G.2.2.2.1 (5 * i + 2)) (G.2.2.2.1 (5 * i + 3)) (G.2.2.2.1 (5 * i + 4))
        refine tg_steps 5 rfl ?_
        refine tg_sldN rfl (5 * i + 1) (nI_add (5 * i) 1) (by omega) hL ?_
        refine tg_steps 4 rfl ?_
        refine tg_sldN rfl (5 * i + 2) (nI_add (5 * i) 2) (by omega) hL ?_
        refine tg_steps 4 rfl ?_
        refine tg_sldN rfl (5 * i + 3) (nI_add (5 * i) 3) (by omega) hL ?_
        refine tg_steps 4 rfl ?_
        refine tg_sldN rfl (5 * i + 4) (nI_add (5 * i) 4) (by omega) hL ?_
        refine tg_callV rfl (hA) rfl rfl rfl rfl rfl (fun v1015 w1015 q1015 => ?_)
        obtain ⟨rfl, n2, p2, t2, x2, rfl, z2⟩ := q1015
        refine tg_steps 5 rfl ?_
        refine tg_sldN rfl (5 * i + 1) (nI_add (5 * i) 1) (by omega) hL ?_
        refine tg_steps 4 rfl ?_
        refine tg_sldN rfl (5 * i + 2) (nI_add (5 * i) 2) (by omega) hL ?_
        refine tg_steps 4 rfl ?_
        refine tg_sldN rfl (5 * i + 3) (nI_add (5 * i) 3) (by omega) hL ?_
        refine tg_steps 4 rfl ?_
        refine tg_sldN rfl (5 * i + 4) (nI_add (5 * i) 4) (by omega) hL ?_
        refine tg_callV rfl (hB _ _ t2 _ z2) rfl rfl rfl rfl rfl (fun v1039 w1039 q1039 => ?_)
        obtain ⟨rfl, h2, y2, rfl, R2⟩ := q1039
        refine tg_steps 1 rfl ?_
        refine tg_ifeq rfl rfl (fun h1043 => ?_) (fun h1043 => ?_)
        · refine tg_steps 2 rfl ?_
          refine tg_pkV [0, 1, 2, 3] ?_
          refine tg_eqS (L2 := [(0, .ref 1000), (1, .ref 0), (2, .ref 64), (3, .int (nI (5 * (i + 1))))]) (st2 := []) (w2 := _) (by rw [show 5 * (i + 1) = 5 * i + 5 by omega, ← nI_add (5 * i) 5]; rfl) rfl rfl ?_
          exact ih18 _ _ _ _ _ _ R2
        · exact absurd (lc_self _) h1043
      refine And.intro (fun h32_29 => ?_) (fun h32_29 => ?_)
      · obtain ⟨A, Z, hA, hB⟩ := pp_mean (G := G) (t := t) R (G.2.2.2.1 (5 * i + 1))
        refine tg_steps 5 rfl ?_
        refine tg_sldN rfl (5 * i + 1) (nI_add (5 * i) 1) (by omega) hL ?_
        refine tg_callV rfl (hA) rfl rfl rfl rfl rfl (fun v1054 w1054 q1054 => ?_)
        obtain ⟨rfl, n2, p2, t2, x2, rfl, z2⟩ := q1054
        refine tg_steps 5 rfl ?_
        refine tg_sldN rfl (5 * i + 1) (nI_add (5 * i) 1) (by omega) hL ?_
        refine tg_callV rfl (hB _ _ t2 _ z2) rfl rfl rfl rfl rfl (fun v1063 w1063 q1063 => ?_)
        obtain ⟨rfl, h2, y2, rfl, R2⟩ := q1063
        refine tg_steps 1 rfl ?_
        refine tg_ifeq rfl rfl (fun h1067 => ?_) (fun h1067 => ?_)
        · refine tg_steps 2 rfl ?_
          refine tg_pkV [0, 1, 2, 3] ?_
          refine tg_eqS (L2 := [(0, .ref 1000), (1, .ref 0), (2, .ref 64), (3, .int (nI (5 * (i + 1))))]) (st2 := []) (w2 := _) (by rw [show 5 * (i + 1) = 5 * i + 5 by omega, ← nI_add (5 * i) 5]; rfl) rfl rfl ?_
          exact ih18 _ _ _ _ _ _ R2
        · exact absurd (lc_self _) h1067
      refine And.intro (fun h32_30 => ?_) (fun h32_30 => ?_)
      · obtain ⟨A, Z, hA, hB⟩ := pp_whatIs (G := G) (t := t) R (G.2.2.2.1 (5 * i + 1)) (G.2.2.2.1 (5 * i + 2))
        refine tg_steps 5 rfl ?_
        refine tg_sldN rfl (5 * i + 1) (nI_add (5 * i) 1) (by omega) hL ?_
        refine tg_steps 4 rfl ?_
        refine tg_sldN rfl (5 * i + 2) (nI_add (5 * i) 2) (by omega) hL ?_
        refine tg_callV rfl (hA) rfl rfl rfl rfl rfl (fun v1083 w1083 q1083 => ?_)
        obtain ⟨rfl, n2, p2, t2, x2, rfl, z2⟩ := q1083
        refine tg_steps 5 rfl ?_
        refine tg_sldN rfl (5 * i + 1) (nI_add (5 * i) 1) (by omega) hL ?_
        refine tg_steps 4 rfl ?_
        refine tg_sldN rfl (5 * i + 2) (nI_add (5 * i) 2) (by omega) hL ?_
        refine tg_callV rfl (hB _ _ t2 _ z2) rfl rfl rfl rfl rfl (fun v1097 w1097 q1097 => ?_)
        obtain ⟨rfl, h2, y2, rfl, R2⟩ := q1097
        refine tg_iceq rfl rfl (fun h1100 => ?_) (fun h1100 => ?_)
        · refine tg_steps 2 rfl ?_
          refine tg_pkV [0, 1, 2, 3] ?_
          refine tg_eqS (L2 := [(0, .ref 1000), (1, .ref 0), (2, .ref 64), (3, .int (nI (5 * (i + 1))))]) (st2 := []) (w2 := _) (by rw [show 5 * (i + 1) = 5 * i + 5 by omega, ← nI_add (5 * i) 5]; rfl) rfl rfl ?_
          exact ih18 _ _ _ _ _ _ R2
        · exact absurd rfl h1100
      refine And.intro (fun h32_31 => ?_) (fun h32_31 => ?_)
      · obtain ⟨A, Z, hA, hB⟩ := pp_row (G := G) (t := t) R (G.2.2.2.1 (5 * i + 1))
        refine tg_steps 5 rfl ?_
        refine tg_sldN rfl (5 * i + 1) (nI_add (5 * i) 1) (by omega) hL ?_
        refine tg_callV rfl (hA) rfl rfl rfl rfl rfl (fun v1111 w1111 q1111 => ?_)
        obtain ⟨rfl, n2, p2, t2, x2, rfl, z2⟩ := q1111
        refine tg_steps 5 rfl ?_
        refine tg_sldN rfl (5 * i + 1) (nI_add (5 * i) 1) (by omega) hL ?_
        refine tg_callV rfl (hB _ _ t2 _ z2) rfl rfl rfl rfl rfl (fun v1120 w1120 q1120 => ?_)
        obtain ⟨rfl, h2, y2, rfl, R2⟩ := q1120
        refine tg_iceq rfl rfl (fun h1123 => ?_) (fun h1123 => ?_)
        · refine tg_steps 2 rfl ?_
          refine tg_pkV [0, 1, 2, 3] ?_
          refine tg_eqS (L2 := [(0, .ref 1000), (1, .ref 0), (2, .ref 64), (3, .int (nI (5 * (i + 1))))]) (st2 := []) (w2 := _) (by rw [show 5 * (i + 1) = 5 * i + 5 by omega, ← nI_add (5 * i) 5]; rfl) rfl rfl ?_
          exact ih18 _ _ _ _ _ _ R2
        · exact absurd rfl h1123
      refine And.intro (fun h32_32 => ?_) (fun h32_32 => ?_)
      · obtain ⟨A, Z, hA, hB⟩ := pp_judge (G := G) (t := t) R 
        refine tg_steps 1 rfl ?_
        refine tg_callV rfl (hA) rfl rfl rfl rfl rfl (fun v1129 w1129 q1129 => ?_)
        obtain ⟨rfl, n2, p2, t2, x2, rfl, z2⟩ := q1129
        refine tg_steps 1 rfl ?_
        refine tg_callV rfl (hB _ _ t2 _ z2) rfl rfl rfl rfl rfl (fun v1133 w1133 q1133 => ?_)
        obtain ⟨rfl, h2, y2, rfl, R2⟩ := q1133
        refine tg_iceq rfl rfl (fun h1136 => ?_) (fun h1136 => ?_)
        · refine tg_steps 2 rfl ?_
          refine tg_pkV [0, 1, 2, 3] ?_
          refine tg_eqS (L2 := [(0, .ref 1000), (1, .ref 0), (2, .ref 64), (3, .int (nI (5 * (i + 1))))]) (st2 := []) (w2 := _) (by rw [show 5 * (i + 1) = 5 * i + 5 by omega, ← nI_add (5 * i) 5]; rfl) rfl rfl ?_
          exact ih18 _ _ _ _ _ _ R2
        · exact absurd rfl h1136
      refine And.intro (fun h32_33 => ?_) (fun h32_33 => ?_)
      · obtain ⟨A, Z, hA, hB⟩ := pp_clear (G := G) (t := t) R 
        refine tg_steps 1 rfl ?_
        refine tg_callV rfl (hA) rfl rfl rfl rfl rfl (fun v1142 w1142 q1142 => ?_)
        obtain ⟨rfl, n2, p2, t2, x2, rfl, z2⟩ := q1142
        refine tg_steps 1 rfl ?_
        refine tg_callV rfl (hB _ _ t2 _ z2) rfl rfl rfl rfl rfl (fun v1146 w1146 q1146 => ?_)
        obtain ⟨rfl, h2, y2, rfl, R2⟩ := q1146
        refine tg_iceq rfl rfl (fun h1149 => ?_) (fun h1149 => ?_)
        · refine tg_steps 2 rfl ?_
          refine tg_pkV [0, 1, 2, 3] ?_
          refine tg_eqS (L2 := [(0, .ref 1000), (1, .ref 0), (2, .ref 64), (3, .int (nI (5 * (i + 1))))]) (st2 := []) (w2 := _) (by rw [show 5 * (i + 1) = 5 * i + 5 by omega, ← nI_add (5 * i) 5]; rfl) rfl rfl ?_
          exact ih18 _ _ _ _ _ _ R2
        · exact absurd rfl h1149
      refine And.intro (fun h32_34 => ?_) (fun h32_34 => ?_)
      · obtain ⟨A, Z, hA, hB⟩ := pp_lots (G := G) (t := t) R (G.2.2.2.1 (5 * i + 1)) (G.2.2.2.1 (5 * i + 2)) (G.2.2.2.1 (5 * i + 3))
        refine tg_steps 5 rfl ?_
        refine tg_sldN rfl (5 * i + 1) (nI_add (5 * i) 1) (by omega) hL ?_
        refine tg_steps 4 rfl ?_
        refine tg_sldN rfl (5 * i + 2) (nI_add (5 * i) 2) (by omega) hL ?_
        refine tg_steps 4 rfl ?_
        refine tg_sldN rfl (5 * i + 3) (nI_add (5 * i) 3) (by omega) hL ?_
        refine tg_callV rfl (hA) rfl rfl rfl rfl rfl (fun v1170 w1170 q1170 => ?_)
        obtain ⟨rfl, n2, p2, t2, x2, rfl, z2⟩ := q1170
        refine tg_steps 5 rfl ?_
        refine tg_sldN rfl (5 * i + 1) (nI_add (5 * i) 1) (by omega) hL ?_
        refine tg_steps 4 rfl ?_
        refine tg_sldN rfl (5 * i + 2) (nI_add (5 * i) 2) (by omega) hL ?_
        refine tg_steps 4 rfl ?_
        refine tg_sldN rfl (5 * i + 3) (nI_add (5 * i) 3) (by omega) hL ?_
        refine tg_callV rfl (hB _ _ t2 _ z2) rfl rfl rfl rfl rfl (fun v1189 w1189 q1189 => ?_)
        obtain ⟨rfl, h2, y2, rfl, R2⟩ := q1189
        refine tg_iceq rfl rfl (fun h1192 => ?_) (fun h1192 => ?_)
        · refine tg_steps 2 rfl ?_
          refine tg_pkV [0, 1, 2, 3] ?_
          refine tg_eqS (L2 := [(0, .ref 1000), (1, .ref 0), (2, .ref 64), (3, .int (nI (5 * (i + 1))))]) (st2 := []) (w2 := _) (by rw [show 5 * (i + 1) = 5 * i + 5 by omega, ← nI_add (5 * i) 5]; rfl) rfl rfl ?_
          exact ih18 _ _ _ _ _ _ R2
        · exact absurd rfl h1192
      refine And.intro (fun h32_35 => ?_) (fun h32_35 => ?_)
      · obtain ⟨A, Z, hA, hB⟩ := pp_image (G := G) (t := t) R 
        refine tg_steps 1 rfl ?_
        refine tg_callV rfl (hA) rfl rfl rfl rfl rfl (fun v1198 w1198 q1198 => ?_)
        obtain ⟨rfl, n2, p2, t2, x2, rfl, z2⟩ := q1198
        refine tg_steps 1 rfl ?_
        refine tg_callV rfl (hB _ _ t2 _ z2) rfl rfl rfl rfl rfl (fun v1202 w1202 q1202 => ?_)
        obtain ⟨rfl, h2, y2, rfl, R2⟩ := q1202
        refine tg_iceq rfl rfl (fun h1205 => ?_) (fun h1205 => ?_)
        · refine tg_steps 2 rfl ?_
          refine tg_pkV [0, 1, 2, 3] ?_
          refine tg_eqS (L2 := [(0, .ref 1000), (1, .ref 0), (2, .ref 64), (3, .int (nI (5 * (i + 1))))]) (st2 := []) (w2 := _) (by rw [show 5 * (i + 1) = 5 * i + 5 by omega, ← nI_add (5 * i) 5]; rfl) rfl rfl ?_
          exact ih18 _ _ _ _ _ _ R2
        · exact absurd rfl h1205
      refine And.intro (fun h32_36 => ?_) (fun h32_36 => ?_)
      · obtain ⟨A, Z, hA, hB⟩ := pp_on (G := G) (t := t) R 
        refine tg_steps 1 rfl ?_
        refine tg_callV rfl (hA) rfl rfl rfl rfl rfl (fun v1211 w1211 q1211 => ?_)
        obtain ⟨rfl, n2, p2, t2, x2, rfl, z2⟩ := q1211
        refine tg_steps 1 rfl ?_
        refine tg_callV rfl (hB _ _ t2 _ z2) rfl rfl rfl rfl rfl (fun v1215 w1215 q1215 => ?_)
        obtain ⟨rfl, h2, y2, rfl, R2⟩ := q1215
        refine tg_iceq rfl rfl (fun h1218 => ?_) (fun h1218 => ?_)
        · refine tg_steps 2 rfl ?_
          refine tg_pkV [0, 1, 2, 3] ?_
          refine tg_eqS (L2 := [(0, .ref 1000), (1, .ref 0), (2, .ref 64), (3, .int (nI (5 * (i + 1))))]) (st2 := []) (w2 := _) (by rw [show 5 * (i + 1) = 5 * i + 5 by omega, ← nI_add (5 * i) 5]; rfl) rfl rfl ?_
          exact ih18 _ _ _ _ _ _ R2
        · exact absurd rfl h1218
      refine And.intro (fun h32_37 => ?_) (fun h32_37 => ?_)
      · obtain ⟨A, Z, hA, hB⟩ := pp_count (G := G) (t := t) R (G.2.2.2.1 (5 * i + 1))
        refine tg_steps 5 rfl ?_
        refine tg_sldN rfl (5 * i + 1) (nI_add (5 * i) 1) (by omega) hL ?_
        refine tg_callV rfl (hA) rfl rfl rfl rfl rfl (fun v1229 w1229 q1229 => ?_)
        obtain ⟨rfl, n2, p2, t2, x2, rfl, z2⟩ := q1229
        refine tg_steps 5 rfl ?_
        refine tg_sldN rfl (5 * i + 1) (nI_add (5 * i) 1) (by omega) hL ?_
        refine tg_callV rfl (hB _ _ t2 _ z2) rfl rfl rfl rfl rfl (fun v1238 w1238 q1238 => ?_)
        obtain ⟨rfl, h2, y2, rfl, R2⟩ := q1238
        refine tg_iceq rfl rfl (fun h1241 => ?_) (fun h1241 => ?_)
        · refine tg_steps 2 rfl ?_
          refine tg_pkV [0, 1, 2, 3] ?_
          refine tg_eqS (L2 := [(0, .ref 1000), (1, .ref 0), (2, .ref 64), (3, .int (nI (5 * (i + 1))))]) (st2 := []) (w2 := _) (by rw [show 5 * (i + 1) = 5 * i + 5 by omega, ← nI_add (5 * i) 5]; rfl) rfl rfl ?_
          exact ih18 _ _ _ _ _ _ R2
        · exact absurd rfl h1241
      refine tg_steps 2 rfl ?_
      refine tg_pkV [0, 1, 2, 3] ?_
      refine tg_eqS (L2 := [(0, .ref 1000), (1, .ref 0), (2, .ref 64), (3, .int (nI (5 * (i + 1))))]) (st2 := []) (w2 := _) (by rw [show 5 * (i + 1) = 5 * i + 5 by omega, ← nI_add (5 * i) 5]; rfl) rfl rfl ?_
      exact ih18 _ _ _ _ _ _ R
