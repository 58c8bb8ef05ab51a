def tbX0 : ATb := (ab_lk [(9, (0, 0))], ab_lk [], ab_lk [], ab_lk [], ab_lk [])
theorem tbX0_g9 : tbX0.1 9 = some (0, 0) := rfl
def tbX0i : ATb := (ab_lk [(9, (0, 0))], ab_lk [(9, (0, 0, 3))], ab_lk [], ab_lk [], ab_lk [])
theorem tbX0i_g9 : tbX0i.1 9 = some (0, 0) := rfl
theorem tbX0i_p9 : tbX0i.2.1 9 = some (0, 0, 3) := rfl
def tbX1 : ATb := (ab_lk [(9, (1, 0)), (15, (1, 1)), (18, (1, 2)), (21, (1, 3)), (24, (1, 4)), (27, (1, 5)), (30, (1, 6)), (34, (1, 7)), (37, (1, 8)), (40, (1, 9)), (44, (1, 10)), (47, (1, 11)), (50, (1, 12))], ab_lk [(40, (1, 9, 0)), (44, (1, 10, 0)), (47, (1, 11, 0)), (50, (1, 12, 0))], ab_lk [], ab_lk [], ab_lk [])
theorem tbX1_g9 : tbX1.1 9 = some (1, 0) := rfl
theorem tbX1_g15 : tbX1.1 15 = some (1, 1) := rfl
theorem tbX1_g18 : tbX1.1 18 = some (1, 2) := rfl
theorem tbX1_g21 : tbX1.1 21 = some (1, 3) := rfl
theorem tbX1_g24 : tbX1.1 24 = some (1, 4) := rfl
theorem tbX1_g27 : tbX1.1 27 = some (1, 5) := rfl
theorem tbX1_g30 : tbX1.1 30 = some (1, 6) := rfl
theorem tbX1_g34 : tbX1.1 34 = some (1, 7) := rfl
theorem tbX1_g37 : tbX1.1 37 = some (1, 8) := rfl
theorem tbX1_g40 : tbX1.1 40 = some (1, 9) := rfl
theorem tbX1_g44 : tbX1.1 44 = some (1, 10) := rfl
theorem tbX1_g47 : tbX1.1 47 = some (1, 11) := rfl
theorem tbX1_g50 : tbX1.1 50 = some (1, 12) := rfl
theorem tbX1_p40 : tbX1.2.1 40 = some (1, 9, 0) := rfl
theorem tbX1_p44 : tbX1.2.1 44 = some (1, 10, 0) := rfl
theorem tbX1_p47 : tbX1.2.1 47 = some (1, 11, 0) := rfl
theorem tbX1_p50 : tbX1.2.1 50 = some (1, 12, 0) := rfl
def tbX1i : ATb := (ab_lk [(9, (1, 0)), (15, (1, 1)), (18, (1, 2)), (21, (1, 3)), (24, (1, 4)), (27, (1, 5)), (30, (1, 6)), (34, (1, 7)), (37, (1, 8)), (40, (1, 9)), (44, (1, 10)), (47, (1, 11)), (50, (1, 12))], ab_lk [(9, (1, 0, 3)), (15, (1, 1, 3)), (18, (1, 2, 3)), (21, (1, 3, 3)), (24, (1, 4, 3)), (27, (1, 5, 3)), (30, (1, 6, 3)), (34, (1, 7, 3)), (37, (1, 8, 3)), (40, (1, 9, 0)), (44, (1, 10, 0)), (47, (1, 11, 0)), (50, (1, 12, 0))], ab_lk [], ab_lk [], ab_lk [])
theorem tbX1i_g9 : tbX1i.1 9 = some (1, 0) := rfl
theorem tbX1i_g15 : tbX1i.1 15 = some (1, 1) := rfl
theorem tbX1i_g18 : tbX1i.1 18 = some (1, 2) := rfl
theorem tbX1i_g21 : tbX1i.1 21 = some (1, 3) := rfl
theorem tbX1i_g24 : tbX1i.1 24 = some (1, 4) := rfl
theorem tbX1i_g27 : tbX1i.1 27 = some (1, 5) := rfl
theorem tbX1i_g30 : tbX1i.1 30 = some (1, 6) := rfl
theorem tbX1i_g34 : tbX1i.1 34 = some (1, 7) := rfl
theorem tbX1i_g37 : tbX1i.1 37 = some (1, 8) := rfl
theorem tbX1i_g40 : tbX1i.1 40 = some (1, 9) := rfl
theorem tbX1i_g44 : tbX1i.1 44 = some (1, 10) := rfl
theorem tbX1i_g47 : tbX1i.1 47 = some (1, 11) := rfl
theorem tbX1i_g50 : tbX1i.1 50 = some (1, 12) := rfl
theorem tbX1i_p9 : tbX1i.2.1 9 = some (1, 0, 3) := rfl
theorem tbX1i_p15 : tbX1i.2.1 15 = some (1, 1, 3) := rfl
theorem tbX1i_p18 : tbX1i.2.1 18 = some (1, 2, 3) := rfl
theorem tbX1i_p21 : tbX1i.2.1 21 = some (1, 3, 3) := rfl
theorem tbX1i_p24 : tbX1i.2.1 24 = some (1, 4, 3) := rfl
theorem tbX1i_p27 : tbX1i.2.1 27 = some (1, 5, 3) := rfl
theorem tbX1i_p30 : tbX1i.2.1 30 = some (1, 6, 3) := rfl
theorem tbX1i_p34 : tbX1i.2.1 34 = some (1, 7, 3) := rfl
theorem tbX1i_p37 : tbX1i.2.1 37 = some (1, 8, 3) := rfl
theorem tbX1i_p40 : tbX1i.2.1 40 = some (1, 9, 0) := rfl
theorem tbX1i_p44 : tbX1i.2.1 44 = some (1, 10, 0) := rfl
theorem tbX1i_p47 : tbX1i.2.1 47 = some (1, 11, 0) := rfl
theorem tbX1i_p50 : tbX1i.2.1 50 = some (1, 12, 0) := rfl
def tbX2 : ATb := (ab_lk [(9, (2, 0)), (15, (2, 1)), (19, (2, 2)), (22, (2, 3))], ab_lk [], ab_lk [], ab_lk [], ab_lk [])
theorem tbX2_g9 : tbX2.1 9 = some (2, 0) := rfl
theorem tbX2_g15 : tbX2.1 15 = some (2, 1) := rfl
theorem tbX2_g19 : tbX2.1 19 = some (2, 2) := rfl
theorem tbX2_g22 : tbX2.1 22 = some (2, 3) := rfl
def tbX2i : ATb := (ab_lk [(9, (2, 0)), (15, (2, 1)), (19, (2, 2)), (22, (2, 3))], ab_lk [(9, (2, 0, 3)), (15, (2, 1, 3)), (19, (2, 2, 3)), (22, (2, 3, 3))], ab_lk [], ab_lk [], ab_lk [])
theorem tbX2i_g9 : tbX2i.1 9 = some (2, 0) := rfl
theorem tbX2i_g15 : tbX2i.1 15 = some (2, 1) := rfl
theorem tbX2i_g19 : tbX2i.1 19 = some (2, 2) := rfl
theorem tbX2i_g22 : tbX2i.1 22 = some (2, 3) := rfl
theorem tbX2i_p9 : tbX2i.2.1 9 = some (2, 0, 3) := rfl
theorem tbX2i_p15 : tbX2i.2.1 15 = some (2, 1, 3) := rfl
theorem tbX2i_p19 : tbX2i.2.1 19 = some (2, 2, 3) := rfl
theorem tbX2i_p22 : tbX2i.2.1 22 = some (2, 3, 3) := rfl
def tbX3 : ATb := (ab_lk [(12, (3, 0)), (16, (3, 1)), (22, (3, 2)), (29, (3, 3)), (48, (1, 11)), (52, (1, 10)), (139, (1, 9)), (149, (1, 12))], ab_lk [(139, (1, 9, 0))], ab_lk [(9, (1, [.inr (.inl none), .inr (.inl none), .inr (.inl none), .inr (.inl none), .inr (.inl none), .inr (.inl none), .inr (.inl none), .inr (.inl none), .inr (.inl none), .inl 0, .inl 0, .inl 0, .inl 0])), (19, (0, [.inr (.inl none)])), (26, (2, [.inr (.inl none), .inr (.inl none), .inr (.inl none), .inr (.inl none)]))], ab_lk [(210, (.inr (.inr (.inr 4636455816377925632))))], ab_lk [])
theorem tbX3_g12 : tbX3.1 12 = some (3, 0) := rfl
theorem tbX3_g16 : tbX3.1 16 = some (3, 1) := rfl
theorem tbX3_g22 : tbX3.1 22 = some (3, 2) := rfl
theorem tbX3_g29 : tbX3.1 29 = some (3, 3) := rfl
theorem tbX3_g48 : tbX3.1 48 = some (1, 11) := rfl
theorem tbX3_g52 : tbX3.1 52 = some (1, 10) := rfl
theorem tbX3_g139 : tbX3.1 139 = some (1, 9) := rfl
theorem tbX3_g149 : tbX3.1 149 = some (1, 12) := rfl
theorem tbX3_p139 : tbX3.2.1 139 = some (1, 9, 0) := rfl
theorem tbX3_n9 : tbX3.2.2.1 9 = some (1, [.inr (.inl none), .inr (.inl none), .inr (.inl none), .inr (.inl none), .inr (.inl none), .inr (.inl none), .inr (.inl none), .inr (.inl none), .inr (.inl none), .inl 0, .inl 0, .inl 0, .inl 0]) := rfl
theorem tbX3_n19 : tbX3.2.2.1 19 = some (0, [.inr (.inl none)]) := rfl
theorem tbX3_n26 : tbX3.2.2.1 26 = some (2, [.inr (.inl none), .inr (.inl none), .inr (.inl none), .inr (.inl none)]) := rfl
theorem tbX3_c210 : tbX3.2.2.2.1 210 = some (.inr (.inr (.inr 4636455816377925632))) := rfl
def tbX3i : ATb := (ab_lk [(12, (3, 0)), (16, (3, 1)), (22, (3, 2)), (29, (3, 3)), (48, (1, 11)), (52, (1, 10)), (139, (1, 9)), (149, (1, 12))], ab_lk [(12, (3, 0, 3)), (16, (3, 1, 3)), (22, (3, 2, 3)), (29, (3, 3, 3)), (139, (1, 9, 0))], ab_lk [(9, (1, [.inr (.inl none), .inr (.inl none), .inr (.inl none), .inr (.inl none), .inr (.inl none), .inr (.inl none), .inr (.inl none), .inr (.inl none), .inr (.inl none), .inl 0, .inl 0, .inl 0, .inl 0])), (19, (0, [.inr (.inl none)])), (26, (2, [.inr (.inl none), .inr (.inl none), .inr (.inl none), .inr (.inl none)]))], ab_lk [(210, (.inr (.inr (.inr 4636455816377925632))))], ab_lk [])
theorem tbX3i_g12 : tbX3i.1 12 = some (3, 0) := rfl
theorem tbX3i_g16 : tbX3i.1 16 = some (3, 1) := rfl
theorem tbX3i_g22 : tbX3i.1 22 = some (3, 2) := rfl
theorem tbX3i_g29 : tbX3i.1 29 = some (3, 3) := rfl
theorem tbX3i_g48 : tbX3i.1 48 = some (1, 11) := rfl
theorem tbX3i_g52 : tbX3i.1 52 = some (1, 10) := rfl
theorem tbX3i_g139 : tbX3i.1 139 = some (1, 9) := rfl
theorem tbX3i_g149 : tbX3i.1 149 = some (1, 12) := rfl
theorem tbX3i_p12 : tbX3i.2.1 12 = some (3, 0, 3) := rfl
theorem tbX3i_p16 : tbX3i.2.1 16 = some (3, 1, 3) := rfl
theorem tbX3i_p22 : tbX3i.2.1 22 = some (3, 2, 3) := rfl
theorem tbX3i_p29 : tbX3i.2.1 29 = some (3, 3, 3) := rfl
theorem tbX3i_p139 : tbX3i.2.1 139 = some (1, 9, 0) := rfl
theorem tbX3i_n9 : tbX3i.2.2.1 9 = some (1, [.inr (.inl none), .inr (.inl none), .inr (.inl none), .inr (.inl none), .inr (.inl none), .inr (.inl none), .inr (.inl none), .inr (.inl none), .inr (.inl none), .inl 0, .inl 0, .inl 0, .inl 0]) := rfl
theorem tbX3i_n19 : tbX3i.2.2.1 19 = some (0, [.inr (.inl none)]) := rfl
theorem tbX3i_n26 : tbX3i.2.2.1 26 = some (2, [.inr (.inl none), .inr (.inl none), .inr (.inl none), .inr (.inl none)]) := rfl
theorem tbX3i_c210 : tbX3i.2.2.2.1 210 = some (.inr (.inr (.inr 4636455816377925632))) := rfl
def tbX4 : ATb := (ab_lk [(9, (4, 0)), (16, (4, 1)), (19, (4, 2)), (27, (4, 3)), (46, (4, 4))], ab_lk [(9, (4, 0, 3)), (16, (4, 1, 3)), (19, (4, 2, 3)), (27, (4, 3, 0)), (46, (4, 4, 0))], ab_lk [], ab_lk [(90, (.inr (.inr (.inr 4636455816377925632))))], ab_lk [(7, 0), (15, 1)])
theorem tbX4_g9 : tbX4.1 9 = some (4, 0) := rfl
theorem tbX4_g16 : tbX4.1 16 = some (4, 1) := rfl
theorem tbX4_g19 : tbX4.1 19 = some (4, 2) := rfl
theorem tbX4_g27 : tbX4.1 27 = some (4, 3) := rfl
theorem tbX4_g46 : tbX4.1 46 = some (4, 4) := rfl
theorem tbX4_p9 : tbX4.2.1 9 = some (4, 0, 3) := rfl
theorem tbX4_p16 : tbX4.2.1 16 = some (4, 1, 3) := rfl
theorem tbX4_p19 : tbX4.2.1 19 = some (4, 2, 3) := rfl
theorem tbX4_p27 : tbX4.2.1 27 = some (4, 3, 0) := rfl
theorem tbX4_p46 : tbX4.2.1 46 = some (4, 4, 0) := rfl
theorem tbX4_a7 : tbX4.2.2.2.2 7 = some 0 := rfl
theorem tbX4_a15 : tbX4.2.2.2.2 15 = some 1 := rfl
theorem tbX4_c90 : tbX4.2.2.2.1 90 = some (.inr (.inr (.inr 4636455816377925632))) := rfl
def tbX4i : ATb := (ab_lk [(9, (4, 0)), (16, (4, 1)), (19, (4, 2)), (27, (4, 3)), (46, (4, 4))], ab_lk [(9, (4, 0, 3)), (16, (4, 1, 3)), (19, (4, 2, 3)), (27, (4, 3, 0)), (46, (4, 4, 0))], ab_lk [], ab_lk [(90, (.inr (.inr (.inr 4636455816377925632))))], ab_lk [(7, 0), (15, 1)])
theorem tbX4i_g9 : tbX4i.1 9 = some (4, 0) := rfl
theorem tbX4i_g16 : tbX4i.1 16 = some (4, 1) := rfl
theorem tbX4i_g19 : tbX4i.1 19 = some (4, 2) := rfl
theorem tbX4i_g27 : tbX4i.1 27 = some (4, 3) := rfl
theorem tbX4i_g46 : tbX4i.1 46 = some (4, 4) := rfl
theorem tbX4i_p9 : tbX4i.2.1 9 = some (4, 0, 3) := rfl
theorem tbX4i_p16 : tbX4i.2.1 16 = some (4, 1, 3) := rfl
theorem tbX4i_p19 : tbX4i.2.1 19 = some (4, 2, 3) := rfl
theorem tbX4i_p27 : tbX4i.2.1 27 = some (4, 3, 0) := rfl
theorem tbX4i_p46 : tbX4i.2.1 46 = some (4, 4, 0) := rfl
theorem tbX4i_a7 : tbX4i.2.2.2.2 7 = some 0 := rfl
theorem tbX4i_a15 : tbX4i.2.2.2.2 15 = some 1 := rfl
theorem tbX4i_c90 : tbX4i.2.2.2.1 90 = some (.inr (.inr (.inr 4636455816377925632))) := rfl
def tbL : ATb := (ab_lk [(15, (4, 0)), (44, (4, 2)), (69, (4, 1)), (95, (4, 3))], ab_lk [], ab_lk [(10, (4, [.inr (.inl none), .inr (.inl none), .inr (.inl none), .inl 0, .inl 0])), (28, (3, [.inr (.inl none), .inr (.inl none), .inr (.inl none), .inr (.inl none)]))], ab_lk [(7, (.inl 2147483647)), (8, (.inl 790386105)), (133, (.inr (.inr (.inr 4636455816377925632))))], ab_lk [(87, 1)])
theorem tbL_g15 : tbL.1 15 = some (4, 0) := rfl
theorem tbL_g44 : tbL.1 44 = some (4, 2) := rfl
theorem tbL_g69 : tbL.1 69 = some (4, 1) := rfl
theorem tbL_g95 : tbL.1 95 = some (4, 3) := rfl
theorem tbL_n10 : tbL.2.2.1 10 = some (4, [.inr (.inl none), .inr (.inl none), .inr (.inl none), .inl 0, .inl 0]) := rfl
theorem tbL_n28 : tbL.2.2.1 28 = some (3, [.inr (.inl none), .inr (.inl none), .inr (.inl none), .inr (.inl none)]) := rfl
theorem tbL_a87 : tbL.2.2.2.2 87 = some 1 := rfl
theorem tbL_c7 : tbL.2.2.2.1 7 = some (.inl 2147483647) := rfl
theorem tbL_c8 : tbL.2.2.2.1 8 = some (.inl 790386105) := rfl
theorem tbL_c133 : tbL.2.2.2.1 133 = some (.inr (.inr (.inr 4636455816377925632))) := rfl
