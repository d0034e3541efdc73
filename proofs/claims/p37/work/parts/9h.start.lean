/-! THE CLASS: the world at the start -/
def RSm : List (Nat × Nat × Nat) := [(3, 2, 441), (448, 1, 464), (464, 2, 471), (471, 0, 472), (471, 1, 473), (471, 2, 474), (471, 3, 475), (464, 1, 466), (466, 0, 467), (466, 1, 468), (466, 2, 469), (466, 3, 470), (464, 0, 465), (448, 0, 452), (452, 2, 459), (459, 0, 460), (459, 1, 461), (459, 2, 462), (459, 3, 463), (452, 1, 454), (454, 0, 455), (454, 1, 456), (454, 2, 457), (454, 3, 458), (452, 0, 453), (441, 5, 451), (441, 4, 450), (441, 3, 449), (441, 2, 448), (441, 1, 445), (445, 1, 447), (445, 0, 446), (441, 0, 442), (442, 1, 444), (442, 0, 443), (3, 1, 406), (413, 1, 429), (429, 2, 436), (436, 0, 437), (436, 1, 438), (436, 2, 439), (436, 3, 440), (429, 1, 431), (431, 0, 432), (431, 1, 433), (431, 2, 434), (431, 3, 435), (429, 0, 430), (413, 0, 417), (417, 2, 424), (424, 0, 425), (424, 1, 426), (424, 2, 427), (424, 3, 428), (417, 1, 419), (419, 0, 420), (419, 1, 421), (419, 2, 422), (419, 3, 423), (417, 0, 418), (406, 5, 416), (406, 4, 415), (406, 3, 414), (406, 2, 413), (406, 1, 410), (410, 1, 412), (410, 0, 411), (406, 0, 407), (407, 1, 409), (407, 0, 408), (3, 0, 371), (378, 1, 394), (394, 2, 401), (401, 0, 402), (401, 1, 403), (401, 2, 404), (401, 3, 405), (394, 1, 396), (396, 0, 397), (396, 1, 398), (396, 2, 399), (396, 3, 400), (394, 0, 395), (378, 0, 382), (382, 2, 389), (389, 0, 390), (389, 1, 391), (389, 2, 392), (389, 3, 393), (382, 1, 384), (384, 0, 385), (384, 1, 386), (384, 2, 387), (384, 3, 388), (382, 0, 383), (371, 5, 381), (371, 4, 380), (371, 3, 379), (371, 2, 378), (371, 1, 375), (375, 1, 377), (375, 0, 376), (371, 0, 372), (372, 1, 374), (372, 0, 373), (2, 5, 314), (314, 10, 329), (329, 14, 370), (329, 13, 369), (329, 12, 368), (329, 11, 367), (329, 10, 366), (329, 9, 365), (329, 8, 358), (358, 0, 359), (358, 1, 360), (358, 2, 361), (358, 3, 362), (358, 4, 363), (358, 5, 364), (329, 7, 354), (354, 0, 355), (354, 1, 356), (354, 2, 357), (329, 6, 350), (350, 0, 351), (350, 1, 352), (350, 2, 353), (329, 5, 346), (346, 0, 347), (346, 1, 348), (346, 2, 349), (329, 4, 342), (342, 0, 343), (342, 1, 344), (342, 2, 345), (329, 3, 338), (338, 0, 339), (338, 1, 340), (338, 2, 341), (329, 2, 334), (334, 0, 335), (334, 1, 336), (334, 2, 337), (329, 1, 330), (330, 0, 331), (330, 1, 332), (330, 2, 333), (314, 7, 328), (314, 6, 324), (324, 0, 325), (324, 1, 326), (324, 2, 327), (314, 5, 321), (321, 1, 323), (321, 0, 322), (314, 4, 318), (318, 1, 320), (318, 0, 319), (314, 3, 317), (314, 2, 316), (314, 1, 315), (2, 4, 257), (257, 10, 272), (272, 14, 313), (272, 13, 312), (272, 12, 311), (272, 11, 310), (272, 10, 309), (272, 9, 308), (272, 8, 301), (301, 0, 302), (301, 1, 303), (301, 2, 304), (301, 3, 305), (301, 4, 306), (301, 5, 307), (272, 7, 297), (297, 0, 298), (297, 1, 299), (297, 2, 300), (272, 6, 293), (293, 0, 294), (293, 1, 295), (293, 2, 296), (272, 5, 289), (289, 0, 290), (289, 1, 291), (289, 2, 292), (272, 4, 285), (285, 0, 286), (285, 1, 287), (285, 2, 288), (272, 3, 281), (281, 0, 282), (281, 1, 283), (281, 2, 284), (272, 2, 277), (277, 0, 278), (277, 1, 279), (277, 2, 280), (272, 1, 273), (273, 0, 274), (273, 1, 275), (273, 2, 276), (257, 7, 271), (257, 6, 267), (267, 0, 268), (267, 1, 269), (267, 2, 270), (257, 5, 264), (264, 1, 266), (264, 0, 265), (257, 4, 261), (261, 1, 263), (261, 0, 262), (257, 3, 260), (257, 2, 259), (257, 1, 258), (2, 3, 200), (200, 10, 215), (215, 14, 256), (215, 13, 255), (215, 12, 254), (215, 11, 253), (215, 10, 252), (215, 9, 251), (215, 8, 244), (244, 0, 245), (244, 1, 246), (244, 2, 247), (244, 3, 248), (244, 4, 249), (244, 5, 250), (215, 7, 240), (240, 0, 241), (240, 1, 242), (240, 2, 243), (215, 6, 236), (236, 0, 237), (236, 1, 238), (236, 2, 239), (215, 5, 232), (232, 0, 233), (232, 1, 234), (232, 2, 235), (215, 4, 228), (228, 0, 229), (228, 1, 230), (228, 2, 231), (215, 3, 224), (224, 0, 225), (224, 1, 226), (224, 2, 227), (215, 2, 220), (220, 0, 221), (220, 1, 222), (220, 2, 223), (215, 1, 216), (216, 0, 217), (216, 1, 218), (216, 2, 219), (200, 7, 214), (200, 6, 210), (210, 0, 211), (210, 1, 212), (210, 2, 213), (200, 5, 207), (207, 1, 209), (207, 0, 208), (200, 4, 204), (204, 1, 206), (204, 0, 205), (200, 3, 203), (200, 2, 202), (200, 1, 201), (2, 2, 143), (143, 10, 158), (158, 14, 199), (158, 13, 198), (158, 12, 197), (158, 11, 196), (158, 10, 195), (158, 9, 194), (158, 8, 187), (187, 0, 188), (187, 1, 189), (187, 2, 190), (187, 3, 191), (187, 4, 192), (187, 5, 193), (158, 7, 183), (183, 0, 184), (183, 1, 185), (183, 2, 186), (158, 6, 179), (179, 0, 180), (179, 1, 181), (179, 2, 182), (158, 5, 175), (175, 0, 176), (175, 1, 177), (175, 2, 178), (158, 4, 171), (171, 0, 172), (171, 1, 173), (171, 2, 174), (158, 3, 167), (167, 0, 168), (167, 1, 169), (167, 2, 170), (158, 2, 163), (163, 0, 164), (163, 1, 165), (163, 2, 166), (158, 1, 159), (159, 0, 160), (159, 1, 161), (159, 2, 162), (143, 7, 157), (143, 6, 153), (153, 0, 154), (153, 1, 155), (153, 2, 156), (143, 5, 150), (150, 1, 152), (150, 0, 151), (143, 4, 147), (147, 1, 149), (147, 0, 148), (143, 3, 146), (143, 2, 145), (143, 1, 144), (2, 1, 86), (86, 10, 101), (101, 14, 142), (101, 13, 141), (101, 12, 140), (101, 11, 139), (101, 10, 138), (101, 9, 137), (101, 8, 130), (130, 0, 131), (130, 1, 132), (130, 2, 133), (130, 3, 134), (130, 4, 135), (130, 5, 136), (101, 7, 126), (126, 0, 127), (126, 1, 128), (126, 2, 129), (101, 6, 122), (122, 0, 123), (122, 1, 124), (122, 2, 125), (101, 5, 118), (118, 0, 119), (118, 1, 120), (118, 2, 121), (101, 4, 114), (114, 0, 115), (114, 1, 116), (114, 2, 117), (101, 3, 110), (110, 0, 111), (110, 1, 112), (110, 2, 113), (101, 2, 106), (106, 0, 107), (106, 1, 108), (106, 2, 109), (101, 1, 102), (102, 0, 103), (102, 1, 104), (102, 2, 105), (86, 7, 100), (86, 6, 96), (96, 0, 97), (96, 1, 98), (96, 2, 99), (86, 5, 93), (93, 1, 95), (93, 0, 94), (86, 4, 90), (90, 1, 92), (90, 0, 91), (86, 3, 89), (86, 2, 88), (86, 1, 87), (2, 0, 29), (29, 10, 44), (44, 14, 85), (44, 13, 84), (44, 12, 83), (44, 11, 82), (44, 10, 81), (44, 9, 80), (44, 8, 73), (73, 0, 74), (73, 1, 75), (73, 2, 76), (73, 3, 77), (73, 4, 78), (73, 5, 79), (44, 7, 69), (69, 0, 70), (69, 1, 71), (69, 2, 72), (44, 6, 65), (65, 0, 66), (65, 1, 67), (65, 2, 68), (44, 5, 61), (61, 0, 62), (61, 1, 63), (61, 2, 64), (44, 4, 57), (57, 0, 58), (57, 1, 59), (57, 2, 60), (44, 3, 53), (53, 0, 54), (53, 1, 55), (53, 2, 56), (44, 2, 49), (49, 0, 50), (49, 1, 51), (49, 2, 52), (44, 1, 45), (45, 0, 46), (45, 1, 47), (45, 2, 48), (29, 7, 43), (29, 6, 39), (39, 0, 40), (39, 1, 41), (39, 2, 42), (29, 5, 36), (36, 1, 38), (36, 0, 37), (29, 4, 33), (33, 1, 35), (33, 0, 34), (29, 3, 32), (29, 2, 31), (29, 1, 30), (0, 5, 28), (0, 4, 27), (0, 3, 4), (4, 9, 26), (4, 8, 25), (4, 7, 24), (4, 6, 23), (4, 5, 22), (4, 4, 21), (4, 3, 13), (13, 0, 14), (13, 1, 15), (13, 2, 16), (13, 3, 17), (13, 4, 18), (13, 5, 19), (13, 6, 20), (4, 2, 5), (5, 0, 6), (5, 1, 7), (5, 2, 8), (5, 3, 9), (5, 4, 10), (5, 5, 11), (5, 6, 12), (0, 2, 3), (0, 1, 2), (0, 0, 1)]
def LSm : List Nat := [317, 316, 315, 260, 259, 258, 203, 202, 201, 146, 145, 144, 89, 88, 87, 32, 31, 30, 28, 27, 1]
def VIm : Nat → Nat → Int32 := up2 (up2 (up2 (up2 (up2 (up2 (up2 (up2 (up2 (up2 (up2 (up2 zI 44 0 (nI 1)) 29 0 (nI 0)) 101 0 (nI 1)) 86 0 (nI 1)) 158 0 (nI 1)) 143 0 (nI 2)) 215 0 (nI 1)) 200 0 (nI 3)) 272 0 (nI 1)) 257 0 (nI 4)) 329 0 (nI 1)) 314 0 (nI 5)
theorem VIm_0 {o : Nat} (h : ∀ p, p < 6 → o ≠ 29 + 57 * p ∧ o ≠ 44 + 57 * p) : VIm o = fun _ => 0 := by
  have g0 := h 0 (by decide)
  have g1 := h 1 (by decide)
  have g2 := h 2 (by decide)
  have g3 := h 3 (by decide)
  have g4 := h 4 (by decide)
  have g5 := h 5 (by decide)
  exact vz (a := 314) (o := o) (show o ≠ 314 by omega) (vz (a := 329) (o := o) (show o ≠ 329 by omega) (vz (a := 257) (o := o) (show o ≠ 257 by omega) (vz (a := 272) (o := o) (show o ≠ 272 by omega) (vz (a := 200) (o := o) (show o ≠ 200 by omega) (vz (a := 215) (o := o) (show o ≠ 215 by omega) (vz (a := 143) (o := o) (show o ≠ 143 by omega) (vz (a := 158) (o := o) (show o ≠ 158 by omega) (vz (a := 86) (o := o) (show o ≠ 86 by omega) (vz (a := 101) (o := o) (show o ≠ 101 by omega) (vz (a := 29) (o := o) (show o ≠ 29 by omega) (vz (a := 44) (o := o) (show o ≠ 44 by omega) (rfl))))))))))))
theorem VIm_p {p : Nat} (hp : p < 6) : VIm (29 + 57 * p) 0 = nI p ∧ VIm (44 + 57 * p) 0 = nI 1 := by
  rcases (show p = 0 ∨ p = 1 ∨ p = 2 ∨ p = 3 ∨ p = 4 ∨ p = 5 by omega) with rfl | rfl | rfl | rfl | rfl | rfl <;> exact ⟨by decide +kernel, by decide +kernel⟩
theorem NB.at_ {T T' : BT} {q j : Nat} {rs : List (Nat × Nat × Nat)} {ls : List Nat} {e0 : Nat} {VI : Nat → Nat → Int32} {VL : Nat → Nat → Int64} {M0 M : Mem} (h : NB T q j rs ls e0 VI VL M0 M) (s : Nat)
    (c : (decide (s + T'.1.length ≤ j) && ((List.range T'.1.length).all (fun o => T.1.getD (s + o) 0 == T'.1.getD o 0 && T.2.1.getD (s + o) 0 == T'.2.1.getD o 0) && T'.2.2.all (fun r => rs.contains (s + r.1, r.2.1, s + r.2.2)))) = true) : Blk T' (mK M) (mN M) (mR M) (fun o => q + (s + o)) := by
  rw [Bool.and_eq_true, Bool.and_eq_true, decide_eq_true_iff] at c
  obtain ⟨c1, c2, c3⟩ := c
  refine ⟨fun o ho => ?_, fun r hr => ?_, fun o o' _ _ e => by have e2 : q + (s + o) = q + (s + o') := e; omega⟩
  · have t := List.all_eq_true.mp c2 o (List.mem_range.mpr ho)
    rw [Bool.and_eq_true, beq_iff_eq, beq_iff_eq] at t
    have u := h.1 (s + o) (by omega)
    exact ⟨u.1.trans t.1, u.2.trans t.2⟩
  · have t := List.all_eq_true.mp c3 r hr
    exact (h.2.2.2.1 _ (by simpa using t)).2
theorem sumL_0 : ∀ n, sumL (fun _ => (0 : Int64)) n = 0
  | 0 => rfl
  | n + 1 => by show sumL _ n + 0 = 0; rw [sumL_0 n]; rfl
theorem lsV_0 {V : Nat → Option Int32} : ∀ n, (∀ x, x < n → V x = none) → lsV V n = 0
  | 0, _ => rfl
  | n + 1, h => by
    show (match V n with | some v => v | none => lsV V n) = 0
    rw [h n (by omega)]
    exact lsV_0 n (fun x hx => h x (by omega))
theorem StV_0 {V : Nat → Option Int32} {i : Nat → Nat → Int32} {h t n : Nat} (hV : ∀ x, x < n → V x = none) (hh : i h = fun _ => 0) (ht : i t = fun _ => 0) : StV V i h t n := fun x hx => by
  rw [hV x hx, hh, ht, lsV_0 (x + 1) (fun y hy => hV y (by omega))]
  exact ⟨rfl, rfl⟩
theorem start_w {G : gW} {q : Nat} {M0 M : Mem} (h : NB tbAll q 476 RSm LSm (gS G 0) VIm zL M0 M) : WD τ0 G (fun k => q + k) M := by
  have hv : ∀ o, o < 476 → (∀ p, p < 6 → o ≠ 29 + 57 * p ∧ o ≠ 44 + 57 * p) → mI M (q + o) = fun _ => 0 := fun o ho hn => (h.2.2.2.2.1 o ho).1.trans (VIm_0 hn)
  have hl : ∀ o, o < 476 → mL M (q + o) = fun _ => 0 := fun o ho => (h.2.2.2.2.1 o ho).2
  have hc : ∀ k, LC k → k ∈ LSm ∧ k < 476 ∧ (∀ p, p < 6 → k ≠ 29 + 57 * p ∧ k ≠ 44 + 57 * p) ∧ tbAll.1.getD k 0 = 3 := by
    intro k hk
    have c : (([1, 27, 28] ++ (List.range 6).flatMap (fun p => [29 + 57 * p + 1, 29 + 57 * p + 2, 29 + 57 * p + 3])).all (fun k => LSm.contains k && tbAll.1.getD k 0 == 3)) = true := by decide +kernel
    have hm : k ∈ [1, 27, 28] ++ (List.range 6).flatMap (fun p => [29 + 57 * p + 1, 29 + 57 * p + 2, 29 + 57 * p + 3]) := by
      rcases hk with rfl | rfl | rfl | ⟨p, o, h1, h2, h3, rfl⟩
      · decide
      · decide
      · decide
      · refine List.mem_append_right _ (List.mem_flatMap.mpr ⟨p, List.mem_range.mpr h1, ?_⟩)
        rcases (show o = 1 ∨ o = 2 ∨ o = 3 by omega) with rfl | rfl | rfl <;> simp
    have t := List.all_eq_true.mp c k hm
    rw [Bool.and_eq_true, beq_iff_eq] at t
    refine ⟨by simpa using t.1, ?_, ?_, t.2⟩
    · rcases hk with rfl | rfl | rfl | ⟨p, o, h1, h2, h3, rfl⟩ <;> omega
    · intro p hp
      rcases hk with rfl | rfl | rfl | ⟨p, o, h1, h2, h3, rfl⟩ <;> omega
  have hr1 : ∀ k, LC k → mR M (q + k) 1 = some (gS G 0) := fun k hk => (h.2.2.2.2.2.1 k (hc k hk).1).2
  have li : ∀ k ci e, LC k → LI G M ci (q + k) 0 e := fun k ci e hk => by
    obtain ⟨a1, a2, a3, a4⟩ := hc k hk
    exact ⟨(h.1 k a2).1.trans a4, by rw [hv k a2 a3]; rfl, fun i hi => absurd hi (Nat.not_lt_zero _), _, hr1 k hk, .inl ⟨rfl, rfl⟩⟩
  have c1 : un τ0 9 9 = 0 := u0 (by decide)
  have c2 : un τ0 44 44 = 0 := u0 (by decide)
  have c3 : un τ0 17 17 = 0 := u0 (by decide)
  have c4 : un τ0 51 51 = 0 := u0 (by decide)
  have c5 : un τ0 26 26 = 0 := u0 (by decide)
  have n3 : ∀ k i, k ≠ 6 ∧ k ≠ 31 ∧ k ≠ 36 ∧ k ≠ 37 → (0 : Int32) = τ0.1 k i := fun k i hk => (z0 hk).symm
  have n4 : ∀ k i, k ≠ 6 ∧ k ≠ 31 ∧ k ≠ 36 ∧ k ≠ 37 → (0 : Int32) = nI (un τ0 k i) := fun k i hk => by rw [u0 hk]; rfl
  refine ⟨⟨?_, ?_, ?_, ?_, ?_, ?_, ?_, ?_, ?_, ?_, ?_, ?_, ?_⟩, ⟨?_, ?_, ?_, ?_, ?_⟩, ?_, ?_⟩
  · intro i j _ _ e
    have e2 : q + i = q + j := e
    omega
  · have b := h.at_ (T' := tbX) 0 (by decide +kernel)
    simpa using b
  · intro p hp
    rcases (show p = 0 ∨ p = 1 ∨ p = 2 ∨ p = 3 ∨ p = 4 ∨ p = 5 by omega) with rfl | rfl | rfl | rfl | rfl | rfl
    · exact ⟨h.at_ (T' := tbPe) 29 (by decide +kernel), (h.2.2.2.1 (2, 0, 29) (by decide +kernel)).2⟩
    · exact ⟨h.at_ (T' := tbPe) 86 (by decide +kernel), (h.2.2.2.1 (2, 1, 86) (by decide +kernel)).2⟩
    · exact ⟨h.at_ (T' := tbPe) 143 (by decide +kernel), (h.2.2.2.1 (2, 2, 143) (by decide +kernel)).2⟩
    · exact ⟨h.at_ (T' := tbPe) 200 (by decide +kernel), (h.2.2.2.1 (2, 3, 200) (by decide +kernel)).2⟩
    · exact ⟨h.at_ (T' := tbPe) 257 (by decide +kernel), (h.2.2.2.1 (2, 4, 257) (by decide +kernel)).2⟩
    · exact ⟨h.at_ (T' := tbPe) 314 (by decide +kernel), (h.2.2.2.1 (2, 5, 314) (by decide +kernel)).2⟩
  · intro p hp
    rcases (show p = 0 ∨ p = 1 ∨ p = 2 by omega) with rfl | rfl | rfl
    · exact ⟨h.at_ (T' := tbPl) 371 (by decide +kernel), (h.2.2.2.1 (3, 0, 371) (by decide +kernel)).2⟩
    · exact ⟨h.at_ (T' := tbPl) 406 (by decide +kernel), (h.2.2.2.1 (3, 1, 406) (by decide +kernel)).2⟩
    · exact ⟨h.at_ (T' := tbPl) 441 (by decide +kernel), (h.2.2.2.1 (3, 2, 441) (by decide +kernel)).2⟩
  · intro c hc; omega
  · intro c hc; omega
  · intro c hc; omega
  · intro c hc; omega
  · rw [c1]; exact li 1 5 _ (.inl rfl)
  · rw [c2]; exact li 27 7 _ (.inr (.inl rfl))
  · rw [c4]; exact li 28 9 _ (.inr (.inr (.inl rfl)))
  · intro p hp
    refine ⟨0, fun _ => 0, 0, fun _ => 0, 0, fun _ => 0, ⟨fun i hi => absurd hi (Nat.not_lt_zero _), fun i j _ hj => absurd hj (Nat.not_lt_zero _), fun c hc => by omega⟩, ⟨fun i hi => absurd hi (Nat.not_lt_zero _), fun i j _ hj => absurd hj (Nat.not_lt_zero _), fun c hc => by omega⟩, ⟨fun i hi => absurd hi (Nat.not_lt_zero _), fun i j _ hj => absurd hj (Nat.not_lt_zero _), fun c hc => by omega⟩, li _ _ _ (.inr (.inr (.inr ⟨p, 1, hp, by decide, by decide, rfl⟩))), li _ _ _ (.inr (.inr (.inr ⟨p, 2, hp, by decide, by decide, rfl⟩))), li _ _ _ (.inr (.inr (.inr ⟨p, 3, hp, by decide, by decide, rfl⟩)))⟩
  · intro i j hi hj _ d h1 _
    have e := (hr1 i hi).symm.trans h1
    exact (Option.some.inj e).symm
  · intro c hc; omega
  · intro p hp
    have z : ∀ o, o < 57 → o ≠ 0 → o ≠ 15 → mI M (hO (fun k => q + k) p o) = fun _ => 0 := fun o ho h1 h2 => hv (29 + 57 * p + o) (by omega) (fun p' hp' => by omega)
    have y : ∀ o, o < 57 → mL M (hO (fun k => q + k) p o) = fun _ => 0 := fun o ho => hl (29 + 57 * p + o) (by omega)
    refine ⟨?_, StV_0 (fun x hx => ?_) (z 5 (by decide) (by decide) (by decide)) (z 6 (by decide) (by decide) (by decide)), StV_0 (fun x hx => ?_) (z 8 (by decide) (by decide) (by decide)) (z 9 (by decide) (by decide) (by decide)), fun r hr m hm => ?_, fun k hk => ?_, ?_, ?_⟩
    · exact (congrFun (h.2.2.2.2.1 (29 + 57 * p + 0) (by omega)).1 0).trans (VIm_p hp).1
    · unfold stV
      rw [show τ0.1 36 (24 * p + x) = -1 from if_pos (.inr (.inr ⟨.inl rfl, by omega⟩))]
      exact if_neg (by decide)
    · unfold ptV
      rw [show τ0.1 37 (24 * p + x) = -1 from if_pos (.inr (.inr ⟨.inr rfl, by omega⟩))]
      exact if_neg (by decide)
    · rw [z (11 + r) (by omega) (by omega) (by omega)]; exact n3 _ _ (by decide)
    · rw [y 14 (by decide)]; rfl
    · rw [y 0 (by decide)]; exact (sumL_0 24).symm
    · rw [y 0 (by decide), c4]; rfl
  · intro p hp
    have z : ∀ o, o < 35 → mI M (gO (fun k => q + k) p o) = fun _ => 0 := fun o ho => hv (371 + 35 * p + o) (by omega) (fun p' hp' => by omega)
    have y : ∀ o, o < 35 → mL M (gO (fun k => q + k) p o) = fun _ => 0 := fun o ho => hl (371 + 35 * p + o) (by omega)
    refine ⟨StV_0 (fun x hx => ?_) (z 2 (by decide)) (z 3 (by decide)), StV_0 (fun x hx => ?_) (z 5 (by decide)) (z 6 (by decide)), fun s hs => ⟨fun k hk => ?_, fun b hb k hk => ?_, fun b hb k hk => ?_⟩, fun m hm => ⟨?_, ?_, ?_⟩⟩
    · unfold crV
      rw [show τ0.1 31 (24 * p + x) = -1 from if_pos (.inr (.inl ⟨rfl, by omega⟩))]
      exact if_neg (by decide)
    · unfold clV
      rw [show τ0.1 31 (24 * p + x) = -1 from if_pos (.inr (.inl ⟨rfl, by omega⟩))]
      exact if_neg (by decide)
    · show mI M (gO (fun k => q + k) p (11 + 12 * s + 1)) k = _
      rw [z _ (by omega)]; exact n4 _ _ (by decide)
    · show mI M (gO (fun k => q + k) p (11 + 12 * s + (3 + b))) k = _
      rw [z _ (by omega)]; exact n3 _ _ (by decide)
    · show mI M (gO (fun k => q + k) p (11 + 12 * s + (8 + b))) k = _
      rw [z _ (by omega)]; exact n3 _ _ (by decide)
    · rw [y 8 (by decide)]; rfl
    · rw [y 9 (by decide)]; rfl
    · rw [z 10 (by decide)]; exact n3 _ _ (by decide)
  · have z : ∀ o, o < 29 → mI M ((fun k => q + k) o) = fun _ => 0 := fun o ho => hv o (by omega) (fun p' hp' => by omega)
    have z2 : ∀ o, o < 25 → mI M (eO (fun k => q + k) o) = fun _ => 0 := fun o ho => z (4 + o) (by omega)
    unfold WTx
    rw [z 0 (by decide)]
    refine ⟨n4 _ _ (by decide), n4 _ _ (by decide), n4 _ _ (by decide), n4 _ _ (by decide), n4 _ _ (by decide), n4 _ _ (by decide), ?_, ?_, fun e he k hk => ?_, fun e he k hk => ?_, fun e he => ?_, fun e he => ?_, fun e he => by omega, fun k hk => by omega⟩
    · rw [z2 0 (by decide)]; exact n4 _ _ (by decide)
    · rw [z2 0 (by decide), show un τ0 24 6 = 0 from u0 (by decide)]; rfl
    · rw [z2 _ (by omega)]; exact n3 _ _ (by decide)
    · rw [z2 _ (by omega)]; exact n3 _ _ (by decide)
    · rw [z2 17 (by decide)]; exact n4 _ _ (by decide)
    · rw [z2 18 (by decide)]
      unfold needN
      rw [show un τ0 24 e = 0 from u0 (by decide)]; rfl
  · exact ⟨fun k hk => by omega, fun k hk => by omega, fun k hk => by omega⟩
  · intro c hc; omega
  · intro p hp hz
    exfalso
    have e : mI M (q + (44 + 57 * p)) 0 = nI 1 := (congrFun (h.2.2.2.2.1 (44 + 57 * p) (by omega)).1 0).trans (VIm_p hp).2
    have e2 : mI M (q + (29 + 57 * p + (15 + 0))) 0 = 0 := hz
    rw [show 29 + 57 * p + (15 + 0) = 44 + 57 * p by omega, e] at e2
    exact absurd e2 (by decide)

