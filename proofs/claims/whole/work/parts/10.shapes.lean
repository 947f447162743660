def shXl : List q_C := [.inl (7, [.inr 1, .inr 8, .inr 73, .inl 4, .inr 80, .inr 81, .inr 82, .inr 83, .inr 84, .inr 91, .inr 94, .inl 0, .inr 95]), .inl (3, [.inl 0, .inl 0, .inl 0, .inr 2, .inr 3, .inr 4, .inr 5, .inr 6, .inr 7]), .inr (.inl (0, 48)), .inr (.inl (0, 8)), .inr (.inl (0, 4)), .inr (.inl (0, 4)), .inr (.inl (0, 4)), .inr (.inl (0, 4)), .inl (1, [.inr 9, .inl 0, .inl 0]), .inr (.inr (5, 9, fun j => 10 + 7 * j)), .inl (3, [.inl 0, .inl 0, .inl 0, .inr 11, .inr 12, .inr 13, .inr 14, .inr 15, .inr 16]), .inr (.inl (0, 48)), .inr (.inl (0, 8)), .inr (.inl (0, 4)), .inr (.inl (0, 4)), .inr (.inl (0, 4)), .inr (.inl (0, 4)), .inl (3, [.inl 0, .inl 0, .inl 0, .inr 18, .inr 19, .inr 20, .inr 21, .inr 22, .inr 23]), .inr (.inl (0, 48)), .inr (.inl (0, 8)), .inr (.inl (0, 4)), .inr (.inl (0, 4)), .inr (.inl (0, 4)), .inr (.inl (0, 4)), .inl (3, [.inl 0, .inl 0, .inl 0, .inr 25, .inr 26, .inr 27, .inr 28, .inr 29, .inr 30]), .inr (.inl (0, 48)), .inr (.inl (0, 8)), .inr (.inl (0, 4)), .inr (.inl (0, 4)), .inr (.inl (0, 4)), .inr (.inl (0, 4)), .inl (3, [.inl 0, .inl 0, .inl 0, .inr 32, .inr 33, .inr 34, .inr 35, .inr 36, .inr 37]), .inr (.inl (0, 48)), .inr (.inl (0, 8)), .inr (.inl (0, 4)), .inr (.inl (0, 4)), .inr (.inl (0, 4)), .inr (.inl (0, 4)), .inl (3, [.inl 0, .inl 0, .inl 0, .inr 39, .inr 40, .inr 41, .inr 42, .inr 43, .inr 44]), .inr (.inl (0, 48)), .inr (.inl (0, 8)), .inr (.inl (0, 4)), .inr (.inl (0, 4)), .inr (.inl (0, 4)), .inr (.inl (0, 4)), .inl (3, [.inl 0, .inl 0, .inl 0, .inr 46, .inr 47, .inr 48, .inr 49, .inr 50, .inr 51]), .inr (.inl (0, 48)), .inr (.inl (0, 8)), .inr (.inl (0, 4)), .inr (.inl (0, 4)), .inr (.inl (0, 4)), .inr (.inl (0, 4)), .inl (3, [.inl 0, .inl 0, .inl 0, .inr 53, .inr 54, .inr 55, .inr 56, .inr 57, .inr 58]), .inr (.inl (0, 48)), .inr (.inl (0, 8)), .inr (.inl (0, 4)), .inr (.inl (0, 4)), .inr (.inl (0, 4)), .inr (.inl (0, 4)), .inl (3, [.inl 0, .inl 0, .inl 0, .inr 60, .inr 61, .inr 62, .inr 63, .inr 64, .inr 65]), .inr (.inl (0, 48)), .inr (.inl (0, 8)), .inr (.inl (0, 4)), .inr (.inl (0, 4)), .inr (.inl (0, 4)), .inr (.inl (0, 4)), .inl (3, [.inl 0, .inl 0, .inl 0, .inr 67, .inr 68, .inr 69, .inr 70, .inr 71, .inr 72]), .inr (.inl (0, 48)), .inr (.inl (0, 8)), .inr (.inl (0, 4)), .inr (.inl (0, 4)), .inr (.inl (0, 4)), .inr (.inl (0, 4)), .inl (3, [.inl 0, .inl 0, .inl 0, .inr 74, .inr 75, .inr 76, .inr 77, .inr 78, .inr 79]), .inr (.inl (0, 48)), .inr (.inl (0, 8)), .inr (.inl (0, 4)), .inr (.inl (0, 4)), .inr (.inl (0, 4)), .inr (.inl (0, 4)), .inr (.inr (4, 8, fun j => 96 + j)), .inl (4, [.inl 1, .inl 1, .inl 1]), .inl (4, [.inl 1, .inl 1, .inl 1]), .inr (.inl (0, 4)), .inl (2, [.inr 85, .inr 86, .inr 87, .inr 88, .inr 89, .inr 90, .inl 0, .inl 0, .inl 0]), .inr (.inl (0, 5)), .inr (.inl (0, 5)), .inr (.inl (0, 5)), .inr (.inl (0, 5)), .inr (.inl (0, 5)), .inr (.inl (0, 4)), .inl (6, [.inr 92, .inl 0, .inl 0, .inl 0, .inr 93]), .inr (.inl (2, 120)), .inr (.inl (0, 6)), .inr (.inl (3, 6)), .inr (.inr (6, 3, fun j => 104 + 2 * j)), .inl (0, [.inl 1, .inl 1, .inl 1, .inl 1]), .inl (0, [.inl 1, .inl 1, .inl 1, .inl 1]), .inl (0, [.inl 1, .inl 1, .inl 1, .inl 1]), .inl (0, [.inl 1, .inl 1, .inl 1, .inl 1]), .inl (0, [.inl 1, .inl 1, .inl 1, .inl 1]), .inl (0, [.inl 1, .inl 1, .inl 1, .inl 1]), .inl (0, [.inl 1, .inl 1, .inl 1, .inl 1]), .inl (0, [.inl 1, .inl 1, .inl 1, .inl 1]), .inl (5, [.inr 105, .inl 0]), .inr (.inl (1, 24)), .inl (5, [.inr 107, .inl 0]), .inr (.inl (1, 24)), .inl (5, [.inr 109, .inl 0]), .inr (.inl (1, 24))]
def shX : q_H := (110, fun c => shXl.getD c.toNat (.inr (.inl (0, 0))))
def shMl : List q_C := [.inl (8, [.inl 0, .inr 1, .inr 2, .inr 3, .inr 4, .inr 5, .inr 6, .inr 7, .inr 8, .inl 0, .inl 1, .inl 1, .inl 1, .inl 1, .inl 1, .inr 9, .inl 0, .inl 1, .inl 1, .inl 1, .inl 1, .inr 10, .inr 11, .inl 0, .inr 12, .inr 13, .inl 0, .inr 14, .inl 0, .inl 0, .inl 4, .inr 15, .inr 16, .inr 17, .inl 0, .inr 18, .inr 19, .inr 20, .inl 4, .inr 21]), .inr (.inl (0, 80)), .inr (.inl (0, 12)), .inr (.inl (0, 12)), .inr (.inl (0, 12)), .inr (.inl (0, 12)), .inr (.inl (0, 12)), .inr (.inl (0, 12)), .inr (.inl (0, 640)), .inr (.inl (0, 4)), .inr (.inl (0, 8)), .inr (.inl (0, 5)), .inr (.inl (0, 5)), .inr (.inl (0, 5)), .inr (.inl (0, 120)), .inr (.inl (0, 6)), .inr (.inl (0, 80)), .inr (.inl (0, 6)), .inr (.inl (0, 3)), .inr (.inl (1, 72)), .inr (.inl (1, 16)), .inr (.inl (0, 80))]
def shM : q_H := (22, fun c => shMl.getD c.toNat (.inr (.inl (0, 0))))
theorem xi0 : q_is shX 0 (.inl (7, [.inr 1, .inr 8, .inr 73, .inl 4, .inr 80, .inr 81, .inr 82, .inr 83, .inr 84, .inr 91, .inr 94, .inl 0, .inr 95])) := ⟨⟨by decide, by decide⟩, rfl⟩
theorem xi1 : q_is shX 1 (.inl (3, [.inl 0, .inl 0, .inl 0, .inr 2, .inr 3, .inr 4, .inr 5, .inr 6, .inr 7])) := ⟨⟨by decide, by decide⟩, rfl⟩
theorem xi2 : q_is shX 2 (.inr (.inl (0, 48))) := ⟨⟨by decide, by decide⟩, rfl⟩
theorem xi3 : q_is shX 3 (.inr (.inl (0, 8))) := ⟨⟨by decide, by decide⟩, rfl⟩
theorem xi4 : q_is shX 4 (.inr (.inl (0, 4))) := ⟨⟨by decide, by decide⟩, rfl⟩
theorem xi5 : q_is shX 5 (.inr (.inl (0, 4))) := ⟨⟨by decide, by decide⟩, rfl⟩
theorem xi6 : q_is shX 6 (.inr (.inl (0, 4))) := ⟨⟨by decide, by decide⟩, rfl⟩
theorem xi7 : q_is shX 7 (.inr (.inl (0, 4))) := ⟨⟨by decide, by decide⟩, rfl⟩
theorem xi8 : q_is shX 8 (.inl (1, [.inr 9, .inl 0, .inl 0])) := ⟨⟨by decide, by decide⟩, rfl⟩
theorem xi9 : q_is shX 9 (.inr (.inr (5, 9, fun j => 10 + 7 * j))) := ⟨⟨by decide, by decide⟩, rfl⟩
theorem xi10 : q_is shX 10 (.inl (3, [.inl 0, .inl 0, .inl 0, .inr 11, .inr 12, .inr 13, .inr 14, .inr 15, .inr 16])) := ⟨⟨by decide, by decide⟩, rfl⟩
theorem xi11 : q_is shX 11 (.inr (.inl (0, 48))) := ⟨⟨by decide, by decide⟩, rfl⟩
theorem xi12 : q_is shX 12 (.inr (.inl (0, 8))) := ⟨⟨by decide, by decide⟩, rfl⟩
theorem xi13 : q_is shX 13 (.inr (.inl (0, 4))) := ⟨⟨by decide, by decide⟩, rfl⟩
theorem xi14 : q_is shX 14 (.inr (.inl (0, 4))) := ⟨⟨by decide, by decide⟩, rfl⟩
theorem xi15 : q_is shX 15 (.inr (.inl (0, 4))) := ⟨⟨by decide, by decide⟩, rfl⟩
theorem xi16 : q_is shX 16 (.inr (.inl (0, 4))) := ⟨⟨by decide, by decide⟩, rfl⟩
theorem xi17 : q_is shX 17 (.inl (3, [.inl 0, .inl 0, .inl 0, .inr 18, .inr 19, .inr 20, .inr 21, .inr 22, .inr 23])) := ⟨⟨by decide, by decide⟩, rfl⟩
theorem xi18 : q_is shX 18 (.inr (.inl (0, 48))) := ⟨⟨by decide, by decide⟩, rfl⟩
theorem xi19 : q_is shX 19 (.inr (.inl (0, 8))) := ⟨⟨by decide, by decide⟩, rfl⟩
theorem xi20 : q_is shX 20 (.inr (.inl (0, 4))) := ⟨⟨by decide, by decide⟩, rfl⟩
theorem xi21 : q_is shX 21 (.inr (.inl (0, 4))) := ⟨⟨by decide, by decide⟩, rfl⟩
theorem xi22 : q_is shX 22 (.inr (.inl (0, 4))) := ⟨⟨by decide, by decide⟩, rfl⟩
theorem xi23 : q_is shX 23 (.inr (.inl (0, 4))) := ⟨⟨by decide, by decide⟩, rfl⟩
theorem xi24 : q_is shX 24 (.inl (3, [.inl 0, .inl 0, .inl 0, .inr 25, .inr 26, .inr 27, .inr 28, .inr 29, .inr 30])) := ⟨⟨by decide, by decide⟩, rfl⟩
theorem xi25 : q_is shX 25 (.inr (.inl (0, 48))) := ⟨⟨by decide, by decide⟩, rfl⟩
theorem xi26 : q_is shX 26 (.inr (.inl (0, 8))) := ⟨⟨by decide, by decide⟩, rfl⟩
theorem xi27 : q_is shX 27 (.inr (.inl (0, 4))) := ⟨⟨by decide, by decide⟩, rfl⟩
theorem xi28 : q_is shX 28 (.inr (.inl (0, 4))) := ⟨⟨by decide, by decide⟩, rfl⟩
theorem xi29 : q_is shX 29 (.inr (.inl (0, 4))) := ⟨⟨by decide, by decide⟩, rfl⟩
theorem xi30 : q_is shX 30 (.inr (.inl (0, 4))) := ⟨⟨by decide, by decide⟩, rfl⟩
theorem xi31 : q_is shX 31 (.inl (3, [.inl 0, .inl 0, .inl 0, .inr 32, .inr 33, .inr 34, .inr 35, .inr 36, .inr 37])) := ⟨⟨by decide, by decide⟩, rfl⟩
theorem xi32 : q_is shX 32 (.inr (.inl (0, 48))) := ⟨⟨by decide, by decide⟩, rfl⟩
theorem xi33 : q_is shX 33 (.inr (.inl (0, 8))) := ⟨⟨by decide, by decide⟩, rfl⟩
theorem xi34 : q_is shX 34 (.inr (.inl (0, 4))) := ⟨⟨by decide, by decide⟩, rfl⟩
theorem xi35 : q_is shX 35 (.inr (.inl (0, 4))) := ⟨⟨by decide, by decide⟩, rfl⟩
theorem xi36 : q_is shX 36 (.inr (.inl (0, 4))) := ⟨⟨by decide, by decide⟩, rfl⟩
theorem xi37 : q_is shX 37 (.inr (.inl (0, 4))) := ⟨⟨by decide, by decide⟩, rfl⟩
theorem xi38 : q_is shX 38 (.inl (3, [.inl 0, .inl 0, .inl 0, .inr 39, .inr 40, .inr 41, .inr 42, .inr 43, .inr 44])) := ⟨⟨by decide, by decide⟩, rfl⟩
theorem xi39 : q_is shX 39 (.inr (.inl (0, 48))) := ⟨⟨by decide, by decide⟩, rfl⟩
theorem xi40 : q_is shX 40 (.inr (.inl (0, 8))) := ⟨⟨by decide, by decide⟩, rfl⟩
theorem xi41 : q_is shX 41 (.inr (.inl (0, 4))) := ⟨⟨by decide, by decide⟩, rfl⟩
theorem xi42 : q_is shX 42 (.inr (.inl (0, 4))) := ⟨⟨by decide, by decide⟩, rfl⟩
theorem xi43 : q_is shX 43 (.inr (.inl (0, 4))) := ⟨⟨by decide, by decide⟩, rfl⟩
theorem xi44 : q_is shX 44 (.inr (.inl (0, 4))) := ⟨⟨by decide, by decide⟩, rfl⟩
theorem xi45 : q_is shX 45 (.inl (3, [.inl 0, .inl 0, .inl 0, .inr 46, .inr 47, .inr 48, .inr 49, .inr 50, .inr 51])) := ⟨⟨by decide, by decide⟩, rfl⟩
theorem xi46 : q_is shX 46 (.inr (.inl (0, 48))) := ⟨⟨by decide, by decide⟩, rfl⟩
theorem xi47 : q_is shX 47 (.inr (.inl (0, 8))) := ⟨⟨by decide, by decide⟩, rfl⟩
theorem xi48 : q_is shX 48 (.inr (.inl (0, 4))) := ⟨⟨by decide, by decide⟩, rfl⟩
theorem xi49 : q_is shX 49 (.inr (.inl (0, 4))) := ⟨⟨by decide, by decide⟩, rfl⟩
theorem xi50 : q_is shX 50 (.inr (.inl (0, 4))) := ⟨⟨by decide, by decide⟩, rfl⟩
theorem xi51 : q_is shX 51 (.inr (.inl (0, 4))) := ⟨⟨by decide, by decide⟩, rfl⟩
theorem xi52 : q_is shX 52 (.inl (3, [.inl 0, .inl 0, .inl 0, .inr 53, .inr 54, .inr 55, .inr 56, .inr 57, .inr 58])) := ⟨⟨by decide, by decide⟩, rfl⟩
theorem xi53 : q_is shX 53 (.inr (.inl (0, 48))) := ⟨⟨by decide, by decide⟩, rfl⟩
theorem xi54 : q_is shX 54 (.inr (.inl (0, 8))) := ⟨⟨by decide, by decide⟩, rfl⟩
theorem xi55 : q_is shX 55 (.inr (.inl (0, 4))) := ⟨⟨by decide, by decide⟩, rfl⟩
theorem xi56 : q_is shX 56 (.inr (.inl (0, 4))) := ⟨⟨by decide, by decide⟩, rfl⟩
theorem xi57 : q_is shX 57 (.inr (.inl (0, 4))) := ⟨⟨by decide, by decide⟩, rfl⟩
theorem xi58 : q_is shX 58 (.inr (.inl (0, 4))) := ⟨⟨by decide, by decide⟩, rfl⟩
theorem xi59 : q_is shX 59 (.inl (3, [.inl 0, .inl 0, .inl 0, .inr 60, .inr 61, .inr 62, .inr 63, .inr 64, .inr 65])) := ⟨⟨by decide, by decide⟩, rfl⟩
theorem xi60 : q_is shX 60 (.inr (.inl (0, 48))) := ⟨⟨by decide, by decide⟩, rfl⟩
theorem xi61 : q_is shX 61 (.inr (.inl (0, 8))) := ⟨⟨by decide, by decide⟩, rfl⟩
theorem xi62 : q_is shX 62 (.inr (.inl (0, 4))) := ⟨⟨by decide, by decide⟩, rfl⟩
theorem xi63 : q_is shX 63 (.inr (.inl (0, 4))) := ⟨⟨by decide, by decide⟩, rfl⟩
theorem xi64 : q_is shX 64 (.inr (.inl (0, 4))) := ⟨⟨by decide, by decide⟩, rfl⟩
theorem xi65 : q_is shX 65 (.inr (.inl (0, 4))) := ⟨⟨by decide, by decide⟩, rfl⟩
theorem xi66 : q_is shX 66 (.inl (3, [.inl 0, .inl 0, .inl 0, .inr 67, .inr 68, .inr 69, .inr 70, .inr 71, .inr 72])) := ⟨⟨by decide, by decide⟩, rfl⟩
theorem xi67 : q_is shX 67 (.inr (.inl (0, 48))) := ⟨⟨by decide, by decide⟩, rfl⟩
theorem xi68 : q_is shX 68 (.inr (.inl (0, 8))) := ⟨⟨by decide, by decide⟩, rfl⟩
theorem xi69 : q_is shX 69 (.inr (.inl (0, 4))) := ⟨⟨by decide, by decide⟩, rfl⟩
theorem xi70 : q_is shX 70 (.inr (.inl (0, 4))) := ⟨⟨by decide, by decide⟩, rfl⟩
theorem xi71 : q_is shX 71 (.inr (.inl (0, 4))) := ⟨⟨by decide, by decide⟩, rfl⟩
theorem xi72 : q_is shX 72 (.inr (.inl (0, 4))) := ⟨⟨by decide, by decide⟩, rfl⟩
theorem xi73 : q_is shX 73 (.inl (3, [.inl 0, .inl 0, .inl 0, .inr 74, .inr 75, .inr 76, .inr 77, .inr 78, .inr 79])) := ⟨⟨by decide, by decide⟩, rfl⟩
theorem xi74 : q_is shX 74 (.inr (.inl (0, 48))) := ⟨⟨by decide, by decide⟩, rfl⟩
theorem xi75 : q_is shX 75 (.inr (.inl (0, 8))) := ⟨⟨by decide, by decide⟩, rfl⟩
theorem xi76 : q_is shX 76 (.inr (.inl (0, 4))) := ⟨⟨by decide, by decide⟩, rfl⟩
theorem xi77 : q_is shX 77 (.inr (.inl (0, 4))) := ⟨⟨by decide, by decide⟩, rfl⟩
theorem xi78 : q_is shX 78 (.inr (.inl (0, 4))) := ⟨⟨by decide, by decide⟩, rfl⟩
theorem xi79 : q_is shX 79 (.inr (.inl (0, 4))) := ⟨⟨by decide, by decide⟩, rfl⟩
theorem xi80 : q_is shX 80 (.inr (.inr (4, 8, fun j => 96 + j))) := ⟨⟨by decide, by decide⟩, rfl⟩
theorem xi81 : q_is shX 81 (.inl (4, [.inl 1, .inl 1, .inl 1])) := ⟨⟨by decide, by decide⟩, rfl⟩
theorem xi82 : q_is shX 82 (.inl (4, [.inl 1, .inl 1, .inl 1])) := ⟨⟨by decide, by decide⟩, rfl⟩
theorem xi83 : q_is shX 83 (.inr (.inl (0, 4))) := ⟨⟨by decide, by decide⟩, rfl⟩
theorem xi84 : q_is shX 84 (.inl (2, [.inr 85, .inr 86, .inr 87, .inr 88, .inr 89, .inr 90, .inl 0, .inl 0, .inl 0])) := ⟨⟨by decide, by decide⟩, rfl⟩
theorem xi85 : q_is shX 85 (.inr (.inl (0, 5))) := ⟨⟨by decide, by decide⟩, rfl⟩
theorem xi86 : q_is shX 86 (.inr (.inl (0, 5))) := ⟨⟨by decide, by decide⟩, rfl⟩
theorem xi87 : q_is shX 87 (.inr (.inl (0, 5))) := ⟨⟨by decide, by decide⟩, rfl⟩
theorem xi88 : q_is shX 88 (.inr (.inl (0, 5))) := ⟨⟨by decide, by decide⟩, rfl⟩
theorem xi89 : q_is shX 89 (.inr (.inl (0, 5))) := ⟨⟨by decide, by decide⟩, rfl⟩
theorem xi90 : q_is shX 90 (.inr (.inl (0, 4))) := ⟨⟨by decide, by decide⟩, rfl⟩
theorem xi91 : q_is shX 91 (.inl (6, [.inr 92, .inl 0, .inl 0, .inl 0, .inr 93])) := ⟨⟨by decide, by decide⟩, rfl⟩
theorem xi92 : q_is shX 92 (.inr (.inl (2, 120))) := ⟨⟨by decide, by decide⟩, rfl⟩
theorem xi93 : q_is shX 93 (.inr (.inl (0, 6))) := ⟨⟨by decide, by decide⟩, rfl⟩
theorem xi94 : q_is shX 94 (.inr (.inl (3, 6))) := ⟨⟨by decide, by decide⟩, rfl⟩
theorem xi95 : q_is shX 95 (.inr (.inr (6, 3, fun j => 104 + 2 * j))) := ⟨⟨by decide, by decide⟩, rfl⟩
theorem xi96 : q_is shX 96 (.inl (0, [.inl 1, .inl 1, .inl 1, .inl 1])) := ⟨⟨by decide, by decide⟩, rfl⟩
theorem xi97 : q_is shX 97 (.inl (0, [.inl 1, .inl 1, .inl 1, .inl 1])) := ⟨⟨by decide, by decide⟩, rfl⟩
theorem xi98 : q_is shX 98 (.inl (0, [.inl 1, .inl 1, .inl 1, .inl 1])) := ⟨⟨by decide, by decide⟩, rfl⟩
theorem xi99 : q_is shX 99 (.inl (0, [.inl 1, .inl 1, .inl 1, .inl 1])) := ⟨⟨by decide, by decide⟩, rfl⟩
theorem xi100 : q_is shX 100 (.inl (0, [.inl 1, .inl 1, .inl 1, .inl 1])) := ⟨⟨by decide, by decide⟩, rfl⟩
theorem xi101 : q_is shX 101 (.inl (0, [.inl 1, .inl 1, .inl 1, .inl 1])) := ⟨⟨by decide, by decide⟩, rfl⟩
theorem xi102 : q_is shX 102 (.inl (0, [.inl 1, .inl 1, .inl 1, .inl 1])) := ⟨⟨by decide, by decide⟩, rfl⟩
theorem xi103 : q_is shX 103 (.inl (0, [.inl 1, .inl 1, .inl 1, .inl 1])) := ⟨⟨by decide, by decide⟩, rfl⟩
theorem xi104 : q_is shX 104 (.inl (5, [.inr 105, .inl 0])) := ⟨⟨by decide, by decide⟩, rfl⟩
theorem xi105 : q_is shX 105 (.inr (.inl (1, 24))) := ⟨⟨by decide, by decide⟩, rfl⟩
theorem xi106 : q_is shX 106 (.inl (5, [.inr 107, .inl 0])) := ⟨⟨by decide, by decide⟩, rfl⟩
theorem xi107 : q_is shX 107 (.inr (.inl (1, 24))) := ⟨⟨by decide, by decide⟩, rfl⟩
theorem xi108 : q_is shX 108 (.inl (5, [.inr 109, .inl 0])) := ⟨⟨by decide, by decide⟩, rfl⟩
theorem xi109 : q_is shX 109 (.inr (.inl (1, 24))) := ⟨⟨by decide, by decide⟩, rfl⟩
theorem mi0 : q_is shM 0 (.inl (8, [.inl 0, .inr 1, .inr 2, .inr 3, .inr 4, .inr 5, .inr 6, .inr 7, .inr 8, .inl 0, .inl 1, .inl 1, .inl 1, .inl 1, .inl 1, .inr 9, .inl 0, .inl 1, .inl 1, .inl 1, .inl 1, .inr 10, .inr 11, .inl 0, .inr 12, .inr 13, .inl 0, .inr 14, .inl 0, .inl 0, .inl 4, .inr 15, .inr 16, .inr 17, .inl 0, .inr 18, .inr 19, .inr 20, .inl 4, .inr 21])) := ⟨⟨by decide, by decide⟩, rfl⟩
theorem mi1 : q_is shM 1 (.inr (.inl (0, 80))) := ⟨⟨by decide, by decide⟩, rfl⟩
theorem mi2 : q_is shM 2 (.inr (.inl (0, 12))) := ⟨⟨by decide, by decide⟩, rfl⟩
theorem mi3 : q_is shM 3 (.inr (.inl (0, 12))) := ⟨⟨by decide, by decide⟩, rfl⟩
theorem mi4 : q_is shM 4 (.inr (.inl (0, 12))) := ⟨⟨by decide, by decide⟩, rfl⟩
theorem mi5 : q_is shM 5 (.inr (.inl (0, 12))) := ⟨⟨by decide, by decide⟩, rfl⟩
theorem mi6 : q_is shM 6 (.inr (.inl (0, 12))) := ⟨⟨by decide, by decide⟩, rfl⟩
theorem mi7 : q_is shM 7 (.inr (.inl (0, 12))) := ⟨⟨by decide, by decide⟩, rfl⟩
theorem mi8 : q_is shM 8 (.inr (.inl (0, 640))) := ⟨⟨by decide, by decide⟩, rfl⟩
theorem mi9 : q_is shM 9 (.inr (.inl (0, 4))) := ⟨⟨by decide, by decide⟩, rfl⟩
theorem mi10 : q_is shM 10 (.inr (.inl (0, 8))) := ⟨⟨by decide, by decide⟩, rfl⟩
theorem mi11 : q_is shM 11 (.inr (.inl (0, 5))) := ⟨⟨by decide, by decide⟩, rfl⟩
theorem mi12 : q_is shM 12 (.inr (.inl (0, 5))) := ⟨⟨by decide, by decide⟩, rfl⟩
theorem mi13 : q_is shM 13 (.inr (.inl (0, 5))) := ⟨⟨by decide, by decide⟩, rfl⟩
theorem mi14 : q_is shM 14 (.inr (.inl (0, 120))) := ⟨⟨by decide, by decide⟩, rfl⟩
theorem mi15 : q_is shM 15 (.inr (.inl (0, 6))) := ⟨⟨by decide, by decide⟩, rfl⟩
theorem mi16 : q_is shM 16 (.inr (.inl (0, 80))) := ⟨⟨by decide, by decide⟩, rfl⟩
theorem mi17 : q_is shM 17 (.inr (.inl (0, 6))) := ⟨⟨by decide, by decide⟩, rfl⟩
theorem mi18 : q_is shM 18 (.inr (.inl (0, 3))) := ⟨⟨by decide, by decide⟩, rfl⟩
theorem mi19 : q_is shM 19 (.inr (.inl (1, 72))) := ⟨⟨by decide, by decide⟩, rfl⟩
theorem mi20 : q_is shM 20 (.inr (.inl (1, 16))) := ⟨⟨by decide, by decide⟩, rfl⟩
theorem mi21 : q_is shM 21 (.inr (.inl (0, 80))) := ⟨⟨by decide, by decide⟩, rfl⟩
/-- a picture's cells -/
def q_Pic (p : Int) : Prop := q_is shX p (.inl (3, [.inl 0, .inl 0, .inl 0, .inr (p + 1), .inr (p + 2), .inr (p + 3), .inr (p + 4), .inr (p + 5), .inr (p + 6)])) ∧ q_is shX (p + 1) (.inr (.inl (0, 48))) ∧ q_is shX (p + 2) (.inr (.inl (0, 8))) ∧ q_is shX (p + 3) (.inr (.inl (0, 4))) ∧ q_is shX (p + 4) (.inr (.inl (0, 4))) ∧ q_is shX (p + 5) (.inr (.inl (0, 4))) ∧ q_is shX (p + 6) (.inr (.inl (0, 4)))
theorem pic1 : q_Pic 1 := ⟨xi1, xi2, xi3, xi4, xi5, xi6, xi7⟩
theorem pic10 : q_Pic 10 := ⟨xi10, xi11, xi12, xi13, xi14, xi15, xi16⟩
theorem pic17 : q_Pic 17 := ⟨xi17, xi18, xi19, xi20, xi21, xi22, xi23⟩
theorem pic24 : q_Pic 24 := ⟨xi24, xi25, xi26, xi27, xi28, xi29, xi30⟩
theorem pic31 : q_Pic 31 := ⟨xi31, xi32, xi33, xi34, xi35, xi36, xi37⟩
theorem pic38 : q_Pic 38 := ⟨xi38, xi39, xi40, xi41, xi42, xi43, xi44⟩
theorem pic45 : q_Pic 45 := ⟨xi45, xi46, xi47, xi48, xi49, xi50, xi51⟩
theorem pic52 : q_Pic 52 := ⟨xi52, xi53, xi54, xi55, xi56, xi57, xi58⟩
theorem pic59 : q_Pic 59 := ⟨xi59, xi60, xi61, xi62, xi63, xi64, xi65⟩
theorem pic66 : q_Pic 66 := ⟨xi66, xi67, xi68, xi69, xi70, xi71, xi72⟩
theorem pic73 : q_Pic 73 := ⟨xi73, xi74, xi75, xi76, xi77, xi78, xi79⟩
theorem picN (i : Int) (h : 0 ≤ i ∧ i < 9) : q_Pic (10 + 7 * i) := by
  have : i = 0 ∨ i = 1 ∨ i = 2 ∨ i = 3 ∨ i = 4 ∨ i = 5 ∨ i = 6 ∨ i = 7 ∨ i = 8 := by omega
  rcases this with rfl | rfl | rfl | rfl | rfl | rfl | rfl | rfl | rfl
  · exact pic10
  · exact pic17
  · exact pic24
  · exact pic31
  · exact pic38
  · exact pic45
  · exact pic52
  · exact pic59
  · exact pic66
theorem curN (i : Int) (h : 0 ≤ i ∧ i < 8) : q_is shX (96 + i) (.inl (0, [.inl 1, .inl 1, .inl 1, .inl 1])) := by
  have : i = 0 ∨ i = 1 ∨ i = 2 ∨ i = 3 ∨ i = 4 ∨ i = 5 ∨ i = 6 ∨ i = 7 := by omega
  rcases this with rfl | rfl | rfl | rfl | rfl | rfl | rfl | rfl
  · exact xi96
  · exact xi97
  · exact xi98
  · exact xi99
  · exact xi100
  · exact xi101
  · exact xi102
  · exact xi103
def q_Row (r : Int) : Prop := q_is shX r (.inl (5, [.inr (r + 1), .inl 0])) ∧ q_is shX (r + 1) (.inr (.inl (1, 24)))
theorem rowN (i : Int) (h : 0 ≤ i ∧ i < 3) : q_Row (104 + 2 * i) := by
  have : i = 0 ∨ i = 1 ∨ i = 2 := by omega
  rcases this with rfl | rfl | rfl
  · exact ⟨xi104, xi105⟩
  · exact ⟨xi106, xi107⟩
  · exact ⟨xi108, xi109⟩
theorem q_b0 {P : Prop} [Decidable P] : (if P then (1 : Int) else 0) = 0 ↔ ¬ P := by by_cases h : P <;> simp [h]
theorem q_b1 {P : Prop} [Decidable P] : ¬ ((if P then (1 : Int) else 0) = 0) ↔ P := by by_cases h : P <;> simp [h]
theorem q_lf1 {P : Prop} [Decidable P] (h : P) : (some (.inl 1) : Option q_V) = some (.inl (if P then 1 else 0)) := by rw [if_pos h]
theorem q_lf0 {P : Prop} [Decidable P] (h : ¬ P) : (some (.inl 0) : Option q_V) = some (.inl (if P then 1 else 0)) := by rw [if_neg h]
theorem q_keqt {x y : Int} : q_cmp x y = 0 ↔ x = y := by
  unfold q_cmp
  split
  · omega
  · split <;> omega
theorem q_keqf {x y : Int} : ¬ (q_cmp x y = 0) ↔ x ≠ y := by
  unfold q_cmp
  split
  · omega
  · split <;> omega
theorem q_knet {x y : Int} : q_cmp x y ≠ 0 ↔ x ≠ y := by
  unfold q_cmp
  split
  · omega
  · split <;> omega
theorem q_knef {x y : Int} : q_cmp x y = 0 ↔ x = y := by
  unfold q_cmp
  split
  · omega
  · split <;> omega
theorem q_kltt {x y : Int} : q_cmp x y < 0 ↔ x < y := by
  unfold q_cmp
  split
  · omega
  · split <;> omega
theorem q_kltf {x y : Int} : ¬ (q_cmp x y < 0) ↔ y ≤ x := by
  unfold q_cmp
  split
  · omega
  · split <;> omega
theorem q_kget {x y : Int} : 0 ≤ q_cmp x y ↔ y ≤ x := by
  unfold q_cmp
  split
  · omega
  · split <;> omega
theorem q_kgef {x y : Int} : ¬ (0 ≤ q_cmp x y) ↔ x < y := by
  unfold q_cmp
  split
  · omega
  · split <;> omega
theorem q_kgtt {x y : Int} : 0 < q_cmp x y ↔ y < x := by
  unfold q_cmp
  split
  · omega
  · split <;> omega
theorem q_kgtf {x y : Int} : ¬ (0 < q_cmp x y) ↔ x ≤ y := by
  unfold q_cmp
  split
  · omega
  · split <;> omega
theorem q_klet {x y : Int} : q_cmp x y ≤ 0 ↔ x ≤ y := by
  unfold q_cmp
  split
  · omega
  · split <;> omega
theorem q_klef {x y : Int} : ¬ (q_cmp x y ≤ 0) ↔ y < x := by
  unfold q_cmp
  split
  · omega
  · split <;> omega
