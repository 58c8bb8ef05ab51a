def tbX0 : ATb := (fun i => if i = 9 then some (0, 0) else none, fun i => if i = 9 then some (0, 0, 3) else none, fun i => none, fun i => none, fun _ => none)
theorem tbX0_g9 : tbX0.1 9 = some (0, 0) := rfl
theorem tbX0_p9 : tbX0.2.1 9 = some (0, 0, 3) := rfl
def tbX1 : ATb := (fun i => if i = 9 then some (1, 0) else if i = 15 then some (1, 1) else if i = 18 then some (1, 2) else if i = 21 then some (1, 3) else if i = 24 then some (1, 4) else if i = 27 then some (1, 5) else if i = 30 then some (1, 6) else if i = 34 then some (1, 7) else if i = 37 then some (1, 8) else if i = 40 then some (1, 9) else if i = 44 then some (1, 10) else if i = 47 then some (1, 11) else if i = 50 then some (1, 12) else none, fun i => if i = 9 then some (1, 0, 3) else if i = 15 then some (1, 1, 3) else if i = 18 then some (1, 2, 3) else if i = 21 then some (1, 3, 3) else if i = 24 then some (1, 4, 3) else if i = 27 then some (1, 5, 3) else if i = 30 then some (1, 6, 3) else if i = 34 then some (1, 7, 3) else if i = 37 then some (1, 8, 3) else if i = 40 then some (1, 9, 0) else if i = 44 then some (1, 10, 0) else if i = 47 then some (1, 11, 0) else if i = 50 then some (1, 12, 0) else none, fun i => none, fun i => none, fun _ => none)
theorem tbX1_g9 : tbX1.1 9 = some (1, 0) := rfl
theorem tbX1_g15 : tbX1.1 15 = some (1, 1) := rfl
theorem tbX1_g18 : tbX1.1 18 = some (1, 2) := rfl
theorem tbX1_g21 : tbX1.1 21 = some (1, 3) := rfl
theorem tbX1_g24 : tbX1.1 24 = some (1, 4) := rfl
theorem tbX1_g27 : tbX1.1 27 = some (1, 5) := rfl
theorem tbX1_g30 : tbX1.1 30 = some (1, 6) := rfl
theorem tbX1_g34 : tbX1.1 34 = some (1, 7) := rfl
theorem tbX1_g37 : tbX1.1 37 = some (1, 8) := rfl
theorem tbX1_g40 : tbX1.1 40 = some (1, 9) := rfl
theorem tbX1_g44 : tbX1.1 44 = some (1, 10) := rfl
theorem tbX1_g47 : tbX1.1 47 = some (1, 11) := rfl
theorem tbX1_g50 : tbX1.1 50 = some (1, 12) := rfl
theorem tbX1_p9 : tbX1.2.1 9 = some (1, 0, 3) := rfl
theorem tbX1_p15 : tbX1.2.1 15 = some (1, 1, 3) := rfl
theorem tbX1_p18 : tbX1.2.1 18 = some (1, 2, 3) := rfl
theorem tbX1_p21 : tbX1.2.1 21 = some (1, 3, 3) := rfl
theorem tbX1_p24 : tbX1.2.1 24 = some (1, 4, 3) := rfl
theorem tbX1_p27 : tbX1.2.1 27 = some (1, 5, 3) := rfl
theorem tbX1_p30 : tbX1.2.1 30 = some (1, 6, 3) := rfl
theorem tbX1_p34 : tbX1.2.1 34 = some (1, 7, 3) := rfl
theorem tbX1_p37 : tbX1.2.1 37 = some (1, 8, 3) := rfl
theorem tbX1_p40 : tbX1.2.1 40 = some (1, 9, 0) := rfl
theorem tbX1_p44 : tbX1.2.1 44 = some (1, 10, 0) := rfl
theorem tbX1_p47 : tbX1.2.1 47 = some (1, 11, 0) := rfl
theorem tbX1_p50 : tbX1.2.1 50 = some (1, 12, 0) := rfl
def tbX2 : ATb := (fun i => if i = 9 then some (2, 0) else if i = 15 then some (2, 1) else if i = 19 then some (2, 2) else if i = 22 then some (2, 3) else none, fun i => if i = 9 then some (2, 0, 3) else if i = 15 then some (2, 1, 3) else if i = 19 then some (2, 2, 3) else if i = 22 then some (2, 3, 3) else none, fun i => none, fun i => none, fun _ => none)
theorem tbX2_g9 : tbX2.1 9 = some (2, 0) := rfl
theorem tbX2_g15 : tbX2.1 15 = some (2, 1) := rfl
theorem tbX2_g19 : tbX2.1 19 = some (2, 2) := rfl
theorem tbX2_g22 : tbX2.1 22 = some (2, 3) := rfl
theorem tbX2_p9 : tbX2.2.1 9 = some (2, 0, 3) := rfl
theorem tbX2_p15 : tbX2.2.1 15 = some (2, 1, 3) := rfl
theorem tbX2_p19 : tbX2.2.1 19 = some (2, 2, 3) := rfl
theorem tbX2_p22 : tbX2.2.1 22 = some (2, 3, 3) := rfl
def tbX3 : ATb := (fun i => if i = 12 then some (3, 0) else if i = 16 then some (3, 1) else if i = 22 then some (3, 2) else if i = 29 then some (3, 3) else if i = 48 then some (1, 11) else if i = 52 then some (1, 10) else if i = 139 then some (1, 9) else if i = 149 then some (1, 12) else none, fun i => if i = 12 then some (3, 0, 3) else if i = 16 then some (3, 1, 3) else if i = 22 then some (3, 2, 3) else if i = 29 then some (3, 3, 3) else if i = 139 then some (1, 9, 0) else none, fun i => if i = 9 then some (1, [.inr (.inl none), .inr (.inl none), .inr (.inl none), .inr (.inl none), .inr (.inl none), .inr (.inl none), .inr (.inl none), .inr (.inl none), .inr (.inl none), .inl 0, .inl 0, .inl 0, .inl 0]) else if i = 19 then some (0, [.inr (.inl none)]) else if i = 26 then some (2, [.inr (.inl none), .inr (.inl none), .inr (.inl none), .inr (.inl none)]) else none, fun i => if i = 210 then some (.inr (.inr (.inr 4636455816377925632))) else if i = 212 then some (.inr (.inr (.inl 919))) else if i = 214 then some (.inr (.inr (.inl 31))) else none, fun _ => none)
theorem tbX3_g12 : tbX3.1 12 = some (3, 0) := rfl
theorem tbX3_g16 : tbX3.1 16 = some (3, 1) := rfl
theorem tbX3_g22 : tbX3.1 22 = some (3, 2) := rfl
theorem tbX3_g29 : tbX3.1 29 = some (3, 3) := rfl
theorem tbX3_g48 : tbX3.1 48 = some (1, 11) := rfl
theorem tbX3_g52 : tbX3.1 52 = some (1, 10) := rfl
theorem tbX3_g139 : tbX3.1 139 = some (1, 9) := rfl
theorem tbX3_g149 : tbX3.1 149 = some (1, 12) := rfl
theorem tbX3_p12 : tbX3.2.1 12 = some (3, 0, 3) := rfl
theorem tbX3_p16 : tbX3.2.1 16 = some (3, 1, 3) := rfl
theorem tbX3_p22 : tbX3.2.1 22 = some (3, 2, 3) := rfl
theorem tbX3_p29 : tbX3.2.1 29 = some (3, 3, 3) := rfl
theorem tbX3_p139 : tbX3.2.1 139 = some (1, 9, 0) := rfl
theorem tbX3_n9 : tbX3.2.2.1 9 = some (1, [.inr (.inl none), .inr (.inl none), .inr (.inl none), .inr (.inl none), .inr (.inl none), .inr (.inl none), .inr (.inl none), .inr (.inl none), .inr (.inl none), .inl 0, .inl 0, .inl 0, .inl 0]) := rfl
theorem tbX3_n19 : tbX3.2.2.1 19 = some (0, [.inr (.inl none)]) := rfl
theorem tbX3_n26 : tbX3.2.2.1 26 = some (2, [.inr (.inl none), .inr (.inl none), .inr (.inl none), .inr (.inl none)]) := rfl
theorem tbX3_c210 : tbX3.2.2.2.1 210 = some (.inr (.inr (.inr 4636455816377925632))) := rfl
theorem tbX3_c212 : tbX3.2.2.2.1 212 = some (.inr (.inr (.inl 919))) := rfl
theorem tbX3_c214 : tbX3.2.2.2.1 214 = some (.inr (.inr (.inl 31))) := rfl
def tbX4 : ATb := (fun i => if i = 9 then some (4, 2) else if i = 13 then some (4, 3) else if i = 16 then some (4, 4) else if i = 19 then some (4, 5) else if i = 22 then some (4, 6) else if i = 25 then some (4, 7) else if i = 29 then some (4, 0) else if i = 33 then some (4, 1) else none, fun i => if i = 9 then some (4, 2, 3) else if i = 13 then some (4, 3, 3) else if i = 16 then some (4, 4, 3) else if i = 19 then some (4, 5, 3) else if i = 22 then some (4, 6, 3) else if i = 25 then some (4, 7, 3) else if i = 29 then some (4, 0, 0) else if i = 33 then some (4, 1, 0) else none, fun i => none, fun i => if i = 181 then some (.inr (.inr (.inr 4636455816377925632))) else if i = 183 then some (.inr (.inr (.inl 919))) else if i = 185 then some (.inr (.inr (.inl 31))) else none, fun _ => none)
theorem tbX4_g9 : tbX4.1 9 = some (4, 2) := rfl
theorem tbX4_g13 : tbX4.1 13 = some (4, 3) := rfl
theorem tbX4_g16 : tbX4.1 16 = some (4, 4) := rfl
theorem tbX4_g19 : tbX4.1 19 = some (4, 5) := rfl
theorem tbX4_g22 : tbX4.1 22 = some (4, 6) := rfl
theorem tbX4_g25 : tbX4.1 25 = some (4, 7) := rfl
theorem tbX4_g29 : tbX4.1 29 = some (4, 0) := rfl
theorem tbX4_g33 : tbX4.1 33 = some (4, 1) := rfl
theorem tbX4_p9 : tbX4.2.1 9 = some (4, 2, 3) := rfl
theorem tbX4_p13 : tbX4.2.1 13 = some (4, 3, 3) := rfl
theorem tbX4_p16 : tbX4.2.1 16 = some (4, 4, 3) := rfl
theorem tbX4_p19 : tbX4.2.1 19 = some (4, 5, 3) := rfl
theorem tbX4_p22 : tbX4.2.1 22 = some (4, 6, 3) := rfl
theorem tbX4_p25 : tbX4.2.1 25 = some (4, 7, 3) := rfl
theorem tbX4_p29 : tbX4.2.1 29 = some (4, 0, 0) := rfl
theorem tbX4_p33 : tbX4.2.1 33 = some (4, 1, 0) := rfl
theorem tbX4_c181 : tbX4.2.2.2.1 181 = some (.inr (.inr (.inr 4636455816377925632))) := rfl
theorem tbX4_c183 : tbX4.2.2.2.1 183 = some (.inr (.inr (.inl 919))) := rfl
theorem tbX4_c185 : tbX4.2.2.2.1 185 = some (.inr (.inr (.inl 31))) := rfl
def tbL : ATb := (fun i => none, fun i => none, fun i => if i = 8 then some (3, [.inr (.inl none), .inr (.inl none), .inr (.inl none), .inr (.inl none)]) else if i = 68 then some (4, [.inl 0, .inl 0, .inr (.inl none), .inr (.inl none), .inr (.inl none), .inr (.inl none), .inr (.inl none), .inr (.inl none)]) else none, fun i => none, fun _ => none)
theorem tbL_n8 : tbL.2.2.1 8 = some (3, [.inr (.inl none), .inr (.inl none), .inr (.inl none), .inr (.inl none)]) := rfl
theorem tbL_n68 : tbL.2.2.1 68 = some (4, [.inl 0, .inl 0, .inr (.inl none), .inr (.inl none), .inr (.inl none), .inr (.inl none), .inr (.inl none), .inr (.inl none)]) := rfl
