section QH
variable {g : G0} {h : G1} {μ : MI} {A : Nat → Prop} {ws : va_W} {L : List (Nat × Value)} {st : List Value} {cells slots : Nat} {Q : State → Prop} {pc : Nat}
theorem g_ast {k : Fin 4} {i x : Nat} {L' : List (Nat × Value)} (d : decode (mC μ) pc = .ok (.astore_n k, 1)) (hi : (k : Nat) = i) (hn : i < mL μ) (hl : (i, Value.ref x) :: L.filter (fun q => !(q.1 == i) && !(q.1 + 1 == i && q.2.category == 2)) = L') (kk : gp g h μ A ws L' st cells slots Q (pc + 1)) : gp g h μ A ws L (.ref x :: st) cells slots Q pc := fun H locs ls hs hP hD hS hl2 => lv_astore_n hs.1 hs.2.1 d hi hl2 hn hl (fun ls' hl3 => kk H locs ls' hs hP hD hS hl3)
theorem g_ist {i : Nat} {x : Int32} {L' : List (Nat × Value)} (d : decode (mC μ) pc = .ok (.istore i, 2)) (hn : i < mL μ) (hl : (i, Value.int x) :: L.filter (fun q => !(q.1 == i) && !(q.1 + 1 == i && q.2.category == 2)) = L') (kk : gp g h μ A ws L' st cells slots Q (pc + 2)) : gp g h μ A ws L (.int x :: st) cells slots Q pc := fun H locs ls hs hP hD hS hl2 => lv_istore hs.1 hs.2.1 d hl2 hn hl (fun ls' hl3 => kk H locs ls' hs hP hD hS hl3)
end QH
/-- the addresses, by their numbers -/
def adr (l : List Nat) (b : Nat) : Nat → Nat := fun k => if k = 41 then b else l.getD k 0
def wsL (g : G0) (p0 p1 p2 p3 p4 p5 p6 p7 p8 p9 p10 p11 p12 p13 p14 p15 p16 p17 p18 p19 p20 p21 p22 p23 p24 p25 p26 p27 p28 p29 p30 p31 p32 p33 p34 p35 p36 p37 p38 p39 p40 : Nat) : va_W := [(p0, .inr (9, [.ref p1, .ref p3, .ref p5, .ref p7, .ref p10, .ref p12, .ref p13, .ref p15, .ref p18, .ref p20, .ref p23, .ref p24, .ref p25])), (p1, .inr (1, [.ref p2, .int 0])), (p2, .inl (gC g, 60, .inl (fun _ => 0))), (p3, .inr (7, [.ref p4])), (p4, .inl (gI g, 44, .inl (upd (upd (fun _ => 0) 2 100) 3 900))), (p5, .inr (7, [.ref p6])), (p6, .inl (gI g, 44, .inl (upd (upd (fun _ => 0) 2 100) 3 900))), (p7, .inr (2, [.ref p8, .int 0, .int 0])), (p8, .inr (8, [.int 14, .ref p9])), (p9, .inl (gI g, 616, .inl (fun _ => 0))), (p10, .inr (8, [.int 2, .ref p11])), (p11, .inl (gI g, 88, .inl (fun _ => 0))), (p12, .inl (gZ g, 2, .inl (fun _ => 0))), (p13, .inr (6, [.ref p14])), (p14, .inl (gI g, 10, .inl (fun _ => 0))), (p15, .inr (0, [.ref p16, .ref p17, .long 0, .long 1])), (p16, .inl (gJ g, 36, .inr (.inl (fun _ => 0)))), (p17, .inl (gJ g, 64, .inr (.inl (fun _ => 0)))), (p18, .inr (3, [.ref p19])), (p19, .inl (gI g, 6, .inl (fun _ => 0))), (p20, .inr (4, [.ref p21, .ref p22, .int 0, .int 0])), (p21, .inl (gI g, 5, .inl (fun _ => 0))), (p22, .inl (gI g, 5, .inl (fun _ => 0))), (p23, .inr (5, [.long 0, .long 1, .long 0, .long 1])), (p24, .inr (5, [.long 0, .long 1, .long 0, .long 1])), (p25, .inr (5, [.long 0, .long 1, .long 0, .long 1])), (p26, .inr (10, [.int 0, .ref p27, .ref p28, .ref p29, .ref p30, .int 0, .int 0, .ref p31, .ref p32, .ref p33, .int 0, .int 0, .ref p34, .int 0, .ref p35, .ref p36, .ref p37, .ref p38, .ref p39, .long 0, .long 0])), (p27, .inl (gI g, 44, .inl (upd (upd (fun _ => 0) 26 100) 27 900))), (p28, .inl (gI g, 44, .inl (fun _ => 0))), (p29, .inl (gI g, 44, .inl (fun _ => 0))), (p30, .inl (gI g, 616, .inl (fun _ => 0))), (p31, .inl (gI g, 88, .inl (fun _ => 0))), (p32, .inl (gZ g, 2, .inl (fun _ => 0))), (p33, .inl (gI g, 60, .inl (fun _ => 0))), (p34, .inl (gI g, 44, .inl (fun _ => 0))), (p35, .inl (gI g, 5, .inl (fun _ => 0))), (p36, .inl (gI g, 5, .inl (fun _ => 0))), (p37, .inl (gJ g, 36, .inr (.inl (fun _ => 0)))), (p38, .inl (gJ g, 6, .inr (.inl (fun _ => 0)))), (p39, .inl (gJ g, 64, .inr (.inl (fun _ => 0)))), (p40, .inl (gJ g, 1, .inr (.inl (fun _ => 0))))]
def g1 (g : G0) (l : List Nat) (b : Nat) : G0 := (gl g, gD g, gI g, gJ g, gZ g, gC g, gB g, adr l b)
set_option maxRecDepth 100000 in
set_option maxHeartbeats 4000000 in
theorem wl_ws (g : G0) (b : Nat) (p0 p1 p2 p3 p4 p5 p6 p7 p8 p9 p10 p11 p12 p13 p14 p15 p16 p17 p18 p19 p20 p21 p22 p23 p24 p25 p26 p27 p28 p29 p30 p31 p32 p33 p34 p35 p36 p37 p38 p39 p40 : Nat) : wl (gA (g1 g [p0, p1, p2, p3, p4, p5, p6, p7, p8, p9, p10, p11, p12, p13, p14, p15, p16, p17, p18, p19, p20, p21, p22, p23, p24, p25, p26, p27, p28, p29, p30, p31, p32, p33, p34, p35, p36, p37, p38, p39, p40] b)) (mixW (g1 g [p0, p1, p2, p3, p4, p5, p6, p7, p8, p9, p10, p11, p12, p13, p14, p15, p16, p17, p18, p19, p20, p21, p22, p23, p24, p25, p26, p27, p28, p29, p30, p31, p32, p33, p34, p35, p36, p37, p38, p39, p40] b) S00) = wsL g p0 p1 p2 p3 p4 p5 p6 p7 p8 p9 p10 p11 p12 p13 p14 p15 p16 p17 p18 p19 p20 p21 p22 p23 p24 p25 p26 p27 p28 p29 p30 p31 p32 p33 p34 p35 p36 p37 p38 p39 p40 := rfl
set_option maxRecDepth 100000 in
set_option maxHeartbeats 4000000 in
theorem ws_at (g : G0) (b : Nat) (p0 p1 p2 p3 p4 p5 p6 p7 p8 p9 p10 p11 p12 p13 p14 p15 p16 p17 p18 p19 p20 p21 p22 p23 p24 p25 p26 p27 p28 p29 p30 p31 p32 p33 p34 p35 p36 p37 p38 p39 p40 : Nat) : ∀ k, k < 41 → ∃ e, (wsL g p0 p1 p2 p3 p4 p5 p6 p7 p8 p9 p10 p11 p12 p13 p14 p15 p16 p17 p18 p19 p20 p21 p22 p23 p24 p25 p26 p27 p28 p29 p30 p31 p32 p33 p34 p35 p36 p37 p38 p39 p40)[k]? = some (adr [p0, p1, p2, p3, p4, p5, p6, p7, p8, p9, p10, p11, p12, p13, p14, p15, p16, p17, p18, p19, p20, p21, p22, p23, p24, p25, p26, p27, p28, p29, p30, p31, p32, p33, p34, p35, p36, p37, p38, p39, p40] b k, e) := by
  intro k hk
  match k, hk with
  | 0, _ => exact ⟨_, rfl⟩
  | 1, _ => exact ⟨_, rfl⟩
  | 2, _ => exact ⟨_, rfl⟩
  | 3, _ => exact ⟨_, rfl⟩
  | 4, _ => exact ⟨_, rfl⟩
  | 5, _ => exact ⟨_, rfl⟩
  | 6, _ => exact ⟨_, rfl⟩
  | 7, _ => exact ⟨_, rfl⟩
  | 8, _ => exact ⟨_, rfl⟩
  | 9, _ => exact ⟨_, rfl⟩
  | 10, _ => exact ⟨_, rfl⟩
  | 11, _ => exact ⟨_, rfl⟩
  | 12, _ => exact ⟨_, rfl⟩
  | 13, _ => exact ⟨_, rfl⟩
  | 14, _ => exact ⟨_, rfl⟩
  | 15, _ => exact ⟨_, rfl⟩
  | 16, _ => exact ⟨_, rfl⟩
  | 17, _ => exact ⟨_, rfl⟩
  | 18, _ => exact ⟨_, rfl⟩
  | 19, _ => exact ⟨_, rfl⟩
  | 20, _ => exact ⟨_, rfl⟩
  | 21, _ => exact ⟨_, rfl⟩
  | 22, _ => exact ⟨_, rfl⟩
  | 23, _ => exact ⟨_, rfl⟩
  | 24, _ => exact ⟨_, rfl⟩
  | 25, _ => exact ⟨_, rfl⟩
  | 26, _ => exact ⟨_, rfl⟩
  | 27, _ => exact ⟨_, rfl⟩
  | 28, _ => exact ⟨_, rfl⟩
  | 29, _ => exact ⟨_, rfl⟩
  | 30, _ => exact ⟨_, rfl⟩
  | 31, _ => exact ⟨_, rfl⟩
  | 32, _ => exact ⟨_, rfl⟩
  | 33, _ => exact ⟨_, rfl⟩
  | 34, _ => exact ⟨_, rfl⟩
  | 35, _ => exact ⟨_, rfl⟩
  | 36, _ => exact ⟨_, rfl⟩
  | 37, _ => exact ⟨_, rfl⟩
  | 38, _ => exact ⟨_, rfl⟩
  | 39, _ => exact ⟨_, rfl⟩
  | 40, _ => exact ⟨_, rfl⟩
  | n + 41, h => exact absurd h (by omega)
theorem g1_D {g : G0} {b : Nat} {p0 p1 p2 p3 p4 p5 p6 p7 p8 p9 p10 p11 p12 p13 p14 p15 p16 p17 p18 p19 p20 p21 p22 p23 p24 p25 p26 p27 p28 p29 p30 p31 p32 p33 p34 p35 p36 p37 p38 p39 p40 : Nat} (hD : va_D (bigA g) (wsL g p0 p1 p2 p3 p4 p5 p6 p7 p8 p9 p10 p11 p12 p13 p14 p15 p16 p17 p18 p19 p20 p21 p22 p23 p24 p25 p26 p27 p28 p29 p30 p31 p32 p33 p34 p35 p36 p37 p38 p39 p40)) (hst : (gl g).stackTraces = false) : Gd (g1 g [p0, p1, p2, p3, p4, p5, p6, p7, p8, p9, p10, p11, p12, p13, p14, p15, p16, p17, p18, p19, p20, p21, p22, p23, p24, p25, p26, p27, p28, p29, p30, p31, p32, p33, p34, p35, p36, p37, p38, p39, p40] b) := by
  refine ⟨hst, fun i hi => ?_, fun i j hi hj hij => ?_⟩
  · obtain ⟨e, he⟩ := ws_at g b p0 p1 p2 p3 p4 p5 p6 p7 p8 p9 p10 p11 p12 p13 p14 p15 p16 p17 p18 p19 p20 p21 p22 p23 p24 p25 p26 p27 p28 p29 p30 p31 p32 p33 p34 p35 p36 p37 p38 p39 p40 i hi
    exact hD.2 i _ he
  · obtain ⟨e, he⟩ := ws_at g b p0 p1 p2 p3 p4 p5 p6 p7 p8 p9 p10 p11 p12 p13 p14 p15 p16 p17 p18 p19 p20 p21 p22 p23 p24 p25 p26 p27 p28 p29 p30 p31 p32 p33 p34 p35 p36 p37 p38 p39 p40 i hi
    obtain ⟨e2, he2⟩ := ws_at g b p0 p1 p2 p3 p4 p5 p6 p7 p8 p9 p10 p11 p12 p13 p14 p15 p16 p17 p18 p19 p20 p21 p22 p23 p24 p25 p26 p27 p28 p29 p30 p31 p32 p33 p34 p35 p36 p37 p38 p39 p40 j hj
    exact hD.1 i j _ _ he he2 hij
