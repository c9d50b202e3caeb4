/-! how long the rows are, as whole numbers -/
theorem kw2 : ((mw_lenW 0 2 : Nat) : Int) = 900 := (rfl)
theorem ki2 : ((mw_lenI 2 : Nat) : Int) = 900 := (rfl)
theorem kw4 : ((mw_lenW 0 4 : Nat) : Int) = 3 := (rfl)
theorem ki4 : ((mw_lenI 4 : Nat) : Int) = 3 := (rfl)
theorem kw5 : ((mw_lenW 0 5 : Nat) : Int) = 3 := (rfl)
theorem ki5 : ((mw_lenI 5 : Nat) : Int) = 3 := (rfl)
theorem kw6 : ((mw_lenW 0 6 : Nat) : Int) = 4 := (rfl)
theorem ki6 : ((mw_lenI 6 : Nat) : Int) = 4 := (rfl)
theorem kw7 : ((mw_lenW 0 7 : Nat) : Int) = 8 := (rfl)
theorem ki7 : ((mw_lenI 7 : Nat) : Int) = 8 := (rfl)
theorem kw8 : ((mw_lenW 0 8 : Nat) : Int) = 8 := (rfl)
theorem ki8 : ((mw_lenI 8 : Nat) : Int) = 8 := (rfl)
theorem kw9 : ((mw_lenW 0 9 : Nat) : Int) = 8 := (rfl)
theorem ki9 : ((mw_lenI 9 : Nat) : Int) = 8 := (rfl)
theorem kw10 : ((mw_lenW 0 10 : Nat) : Int) = 8 := (rfl)
theorem ki10 : ((mw_lenI 10 : Nat) : Int) = 8 := (rfl)
theorem kw11 : ((mw_lenW 0 11 : Nat) : Int) = 900 := (rfl)
theorem ki11 : ((mw_lenI 11 : Nat) : Int) = 900 := (rfl)
theorem kw12 : ((mw_lenW 0 12 : Nat) : Int) = 64 := (rfl)
theorem ki12 : ((mw_lenI 12 : Nat) : Int) = 64 := (rfl)
theorem kw14 : ((mw_lenW 0 14 : Nat) : Int) = 3 := (rfl)
theorem ki14 : ((mw_lenI 14 : Nat) : Int) = 3 := (rfl)
theorem kw15 : ((mw_lenW 0 15 : Nat) : Int) = 3 := (rfl)
theorem ki15 : ((mw_lenI 15 : Nat) : Int) = 3 := (rfl)
theorem kw16 : ((mw_lenW 0 16 : Nat) : Int) = 4 := (rfl)
theorem ki16 : ((mw_lenI 16 : Nat) : Int) = 4 := (rfl)
theorem kw17 : ((mw_lenW 0 17 : Nat) : Int) = 8 := (rfl)
theorem ki17 : ((mw_lenI 17 : Nat) : Int) = 8 := (rfl)
theorem kw18 : ((mw_lenW 0 18 : Nat) : Int) = 8 := (rfl)
theorem ki18 : ((mw_lenI 18 : Nat) : Int) = 8 := (rfl)
theorem kw19 : ((mw_lenW 0 19 : Nat) : Int) = 8 := (rfl)
theorem ki19 : ((mw_lenI 19 : Nat) : Int) = 8 := (rfl)
theorem kw20 : ((mw_lenW 0 20 : Nat) : Int) = 8 := (rfl)
theorem ki20 : ((mw_lenI 20 : Nat) : Int) = 8 := (rfl)
theorem kw21 : ((mw_lenW 0 21 : Nat) : Int) = 900 := (rfl)
theorem ki21 : ((mw_lenI 21 : Nat) : Int) = 900 := (rfl)
theorem kw23 : ((mw_lenW 0 23 : Nat) : Int) = 64 := (rfl)
theorem ki23 : ((mw_lenI 23 : Nat) : Int) = 64 := (rfl)
theorem kw24 : ((mw_lenW 0 24 : Nat) : Int) = 6 := (rfl)
theorem ki24 : ((mw_lenI 24 : Nat) : Int) = 6 := (rfl)
theorem kr26 : (((mw_rows 26).length : Nat) : Int) = 10 := (rfl)
theorem kw27 : ((mw_lenW 0 27 : Nat) : Int) = 35 := (rfl)
theorem ki27 : ((mw_lenI 27 : Nat) : Int) = 35 := (rfl)
theorem kw28 : ((mw_lenW 0 28 : Nat) : Int) = 35 := (rfl)
theorem ki28 : ((mw_lenI 28 : Nat) : Int) = 35 := (rfl)
theorem kw29 : ((mw_lenW 0 29 : Nat) : Int) = 35 := (rfl)
theorem ki29 : ((mw_lenI 29 : Nat) : Int) = 35 := (rfl)
theorem kw30 : ((mw_lenW 0 30 : Nat) : Int) = 35 := (rfl)
theorem ki30 : ((mw_lenI 30 : Nat) : Int) = 35 := (rfl)
theorem kw31 : ((mw_lenW 0 31 : Nat) : Int) = 35 := (rfl)
theorem ki31 : ((mw_lenI 31 : Nat) : Int) = 35 := (rfl)
theorem kw32 : ((mw_lenW 0 32 : Nat) : Int) = 35 := (rfl)
theorem ki32 : ((mw_lenI 32 : Nat) : Int) = 35 := (rfl)
theorem kw33 : ((mw_lenW 0 33 : Nat) : Int) = 35 := (rfl)
theorem ki33 : ((mw_lenI 33 : Nat) : Int) = 35 := (rfl)
theorem kw34 : ((mw_lenW 0 34 : Nat) : Int) = 35 := (rfl)
theorem ki34 : ((mw_lenI 34 : Nat) : Int) = 35 := (rfl)
theorem kw35 : ((mw_lenW 0 35 : Nat) : Int) = 35 := (rfl)
theorem ki35 : ((mw_lenI 35 : Nat) : Int) = 35 := (rfl)
theorem kw36 : ((mw_lenW 0 36 : Nat) : Int) = 35 := (rfl)
theorem ki36 : ((mw_lenI 36 : Nat) : Int) = 35 := (rfl)
theorem kw38 : ((mw_lenW 0 38 : Nat) : Int) = 4 := (rfl)
theorem ki38 : ((mw_lenI 38 : Nat) : Int) = 4 := (rfl)
theorem kw39 : ((mw_lenW 0 39 : Nat) : Int) = 4 := (rfl)
theorem ki39 : ((mw_lenI 39 : Nat) : Int) = 4 := (rfl)
theorem kr40 : (((mw_rows 40).length : Nat) : Int) = 4 := (rfl)
theorem kw41 : ((mw_lenW 2 41 : Nat) : Int) = 40 := (rfl)
theorem kw42 : ((mw_lenW 2 42 : Nat) : Int) = 40 := (rfl)
theorem kw43 : ((mw_lenW 2 43 : Nat) : Int) = 40 := (rfl)
theorem kw44 : ((mw_lenW 2 44 : Nat) : Int) = 40 := (rfl)
theorem kr46 : (((mw_rows 46).length : Nat) : Int) = 5 := (rfl)
theorem kw47 : ((mw_lenW 0 47 : Nat) : Int) = 35 := (rfl)
theorem ki47 : ((mw_lenI 47 : Nat) : Int) = 35 := (rfl)
theorem kw48 : ((mw_lenW 0 48 : Nat) : Int) = 35 := (rfl)
theorem ki48 : ((mw_lenI 48 : Nat) : Int) = 35 := (rfl)
theorem kw49 : ((mw_lenW 0 49 : Nat) : Int) = 35 := (rfl)
theorem ki49 : ((mw_lenI 49 : Nat) : Int) = 35 := (rfl)
theorem kw50 : ((mw_lenW 0 50 : Nat) : Int) = 35 := (rfl)
theorem ki50 : ((mw_lenI 50 : Nat) : Int) = 35 := (rfl)
theorem kw51 : ((mw_lenW 0 51 : Nat) : Int) = 35 := (rfl)
theorem ki51 : ((mw_lenI 51 : Nat) : Int) = 35 := (rfl)
theorem kw52 : ((mw_lenW 0 52 : Nat) : Int) = 4 := (rfl)
theorem ki52 : ((mw_lenI 52 : Nat) : Int) = 4 := (rfl)
theorem kw53 : ((mw_lenW 2 53 : Nat) : Int) = 201 := (rfl)
theorem kw54 : ((mw_lenW 2 54 : Nat) : Int) = 201 := (rfl)
theorem kr56 : (((mw_rows 56).length : Nat) : Int) = 5 := (rfl)
theorem kw57 : ((mw_lenW 0 57 : Nat) : Int) = 35 := (rfl)
theorem ki57 : ((mw_lenI 57 : Nat) : Int) = 35 := (rfl)
theorem kw58 : ((mw_lenW 0 58 : Nat) : Int) = 35 := (rfl)
theorem ki58 : ((mw_lenI 58 : Nat) : Int) = 35 := (rfl)
theorem kw59 : ((mw_lenW 0 59 : Nat) : Int) = 35 := (rfl)
theorem ki59 : ((mw_lenI 59 : Nat) : Int) = 35 := (rfl)
theorem kw60 : ((mw_lenW 0 60 : Nat) : Int) = 35 := (rfl)
theorem ki60 : ((mw_lenI 60 : Nat) : Int) = 35 := (rfl)
theorem kw61 : ((mw_lenW 0 61 : Nat) : Int) = 35 := (rfl)
theorem ki61 : ((mw_lenI 61 : Nat) : Int) = 35 := (rfl)
theorem kw62 : ((mw_lenW 0 62 : Nat) : Int) = 5 := (rfl)
theorem ki62 : ((mw_lenI 62 : Nat) : Int) = 5 := (rfl)
theorem kw63 : ((mw_lenW 2 63 : Nat) : Int) = 9 := (rfl)
theorem kw64 : ((mw_lenW 2 64 : Nat) : Int) = 9 := (rfl)
theorem kw66 : ((mw_lenW 0 66 : Nat) : Int) = 5 := (rfl)
theorem ki66 : ((mw_lenI 66 : Nat) : Int) = 5 := (rfl)
theorem kw67 : ((mw_lenW 0 67 : Nat) : Int) = 5 := (rfl)
theorem ki67 : ((mw_lenI 67 : Nat) : Int) = 5 := (rfl)
theorem kw68 : ((mw_lenW 1 68 : Nat) : Int) = 5 := (rfl)
theorem kb68 : ((mw_lenB 68 : Nat) : Int) = 5 := (rfl)
theorem kw69 : ((mw_lenW 0 69 : Nat) : Int) = 35 := (rfl)
theorem ki69 : ((mw_lenI 69 : Nat) : Int) = 35 := (rfl)
theorem kw70 : ((mw_lenW 0 70 : Nat) : Int) = 30 := (rfl)
theorem ki70 : ((mw_lenI 70 : Nat) : Int) = 30 := (rfl)
theorem kw71 : ((mw_lenW 0 71 : Nat) : Int) = 5 := (rfl)
theorem ki71 : ((mw_lenI 71 : Nat) : Int) = 5 := (rfl)
theorem kw72 : ((mw_lenW 0 72 : Nat) : Int) = 160 := (rfl)
theorem ki72 : ((mw_lenI 72 : Nat) : Int) = 160 := (rfl)
theorem kw73 : ((mw_lenW 0 73 : Nat) : Int) = 160 := (rfl)
theorem ki73 : ((mw_lenI 73 : Nat) : Int) = 160 := (rfl)
theorem kw75 : ((mw_lenW 2 75 : Nat) : Int) = 125 := (rfl)
theorem kw78 : ((mw_lenW 0 78 : Nat) : Int) = 3 := (rfl)
theorem ki78 : ((mw_lenI 78 : Nat) : Int) = 3 := (rfl)
theorem kw79 : ((mw_lenW 0 79 : Nat) : Int) = 3 := (rfl)
theorem ki79 : ((mw_lenI 79 : Nat) : Int) = 3 := (rfl)
theorem kw80 : ((mw_lenW 0 80 : Nat) : Int) = 4 := (rfl)
theorem ki80 : ((mw_lenI 80 : Nat) : Int) = 4 := (rfl)
theorem kw81 : ((mw_lenW 0 81 : Nat) : Int) = 8 := (rfl)
theorem ki81 : ((mw_lenI 81 : Nat) : Int) = 8 := (rfl)
theorem kw82 : ((mw_lenW 0 82 : Nat) : Int) = 8 := (rfl)
theorem ki82 : ((mw_lenI 82 : Nat) : Int) = 8 := (rfl)
theorem kw83 : ((mw_lenW 0 83 : Nat) : Int) = 8 := (rfl)
theorem ki83 : ((mw_lenI 83 : Nat) : Int) = 8 := (rfl)
theorem kw84 : ((mw_lenW 0 84 : Nat) : Int) = 8 := (rfl)
theorem ki84 : ((mw_lenI 84 : Nat) : Int) = 8 := (rfl)
theorem kw85 : ((mw_lenW 0 85 : Nat) : Int) = 900 := (rfl)
theorem ki85 : ((mw_lenI 85 : Nat) : Int) = 900 := (rfl)
theorem kw86 : ((mw_lenW 0 86 : Nat) : Int) = 35 := (rfl)
theorem ki86 : ((mw_lenI 86 : Nat) : Int) = 35 := (rfl)
theorem kw89 : ((mw_lenW 0 89 : Nat) : Int) = 3 := (rfl)
theorem ki89 : ((mw_lenI 89 : Nat) : Int) = 3 := (rfl)
theorem kw90 : ((mw_lenW 0 90 : Nat) : Int) = 3 := (rfl)
theorem ki90 : ((mw_lenI 90 : Nat) : Int) = 3 := (rfl)
theorem kw91 : ((mw_lenW 0 91 : Nat) : Int) = 4 := (rfl)
theorem ki91 : ((mw_lenI 91 : Nat) : Int) = 4 := (rfl)
theorem kw92 : ((mw_lenW 0 92 : Nat) : Int) = 8 := (rfl)
theorem ki92 : ((mw_lenI 92 : Nat) : Int) = 8 := (rfl)
theorem kw93 : ((mw_lenW 0 93 : Nat) : Int) = 8 := (rfl)
theorem ki93 : ((mw_lenI 93 : Nat) : Int) = 8 := (rfl)
theorem kw94 : ((mw_lenW 0 94 : Nat) : Int) = 8 := (rfl)
theorem ki94 : ((mw_lenI 94 : Nat) : Int) = 8 := (rfl)
theorem kw95 : ((mw_lenW 0 95 : Nat) : Int) = 8 := (rfl)
theorem ki95 : ((mw_lenI 95 : Nat) : Int) = 8 := (rfl)
theorem kw96 : ((mw_lenW 0 96 : Nat) : Int) = 900 := (rfl)
theorem ki96 : ((mw_lenI 96 : Nat) : Int) = 900 := (rfl)
theorem kw97 : ((mw_lenW 0 97 : Nat) : Int) = 35 := (rfl)
theorem ki97 : ((mw_lenI 97 : Nat) : Int) = 35 := (rfl)
theorem kw98 : ((mw_lenW 0 98 : Nat) : Int) = 35 := (rfl)
theorem ki98 : ((mw_lenI 98 : Nat) : Int) = 35 := (rfl)
theorem kw99 : ((mw_lenW 0 99 : Nat) : Int) = 35 := (rfl)
theorem ki99 : ((mw_lenI 99 : Nat) : Int) = 35 := (rfl)
theorem kw101 : ((mw_lenW 0 101 : Nat) : Int) = 4380 := (rfl)
theorem ki101 : ((mw_lenI 101 : Nat) : Int) = 4380 := (rfl)
theorem kw102 : ((mw_lenW 1 102 : Nat) : Int) = 2 := (rfl)
theorem kb102 : ((mw_lenB 102 : Nat) : Int) = 2 := (rfl)
theorem kw103 : ((mw_lenW 0 103 : Nat) : Int) = 900 := (rfl)
theorem ki103 : ((mw_lenI 103 : Nat) : Int) = 900 := (rfl)
theorem kw104 : ((mw_lenW 0 104 : Nat) : Int) = 1460 := (rfl)
theorem ki104 : ((mw_lenI 104 : Nat) : Int) = 1460 := (rfl)
theorem kw105 : ((mw_lenW 0 105 : Nat) : Int) = 900 := (rfl)
theorem ki105 : ((mw_lenI 105 : Nat) : Int) = 900 := (rfl)
theorem kw106 : ((mw_lenW 0 106 : Nat) : Int) = 3 := (rfl)
theorem ki106 : ((mw_lenI 106 : Nat) : Int) = 3 := (rfl)
theorem kw107 : ((mw_lenW 0 107 : Nat) : Int) = 47 := (rfl)
theorem ki107 : ((mw_lenI 107 : Nat) : Int) = 47 := (rfl)
theorem kw108 : ((mw_lenW 0 108 : Nat) : Int) = 6834 := (rfl)
theorem ki108 : ((mw_lenI 108 : Nat) : Int) = 6834 := (rfl)
theorem kw109 : ((mw_lenW 0 109 : Nat) : Int) = 164500 := (rfl)
theorem ki109 : ((mw_lenI 109 : Nat) : Int) = 164500 := (rfl)
theorem kw110 : ((mw_lenW 0 110 : Nat) : Int) = 164500 := (rfl)
theorem ki110 : ((mw_lenI 110 : Nat) : Int) = 164500 := (rfl)
theorem kw111 : ((mw_lenW 0 111 : Nat) : Int) = 6580 := (rfl)
theorem ki111 : ((mw_lenI 111 : Nat) : Int) = 6580 := (rfl)
theorem kw112 : ((mw_lenW 0 112 : Nat) : Int) = 6580 := (rfl)
theorem ki112 : ((mw_lenI 112 : Nat) : Int) = 6580 := (rfl)
theorem kw113 : ((mw_lenW 0 113 : Nat) : Int) = 16384 := (rfl)
theorem ki113 : ((mw_lenI 113 : Nat) : Int) = 16384 := (rfl)
theorem kw114 : ((mw_lenW 0 114 : Nat) : Int) = 8 := (rfl)
theorem ki114 : ((mw_lenI 114 : Nat) : Int) = 8 := (rfl)
theorem kw115 : ((mw_lenW 0 115 : Nat) : Int) = 1280 := (rfl)
theorem ki115 : ((mw_lenI 115 : Nat) : Int) = 1280 := (rfl)
theorem kw116 : ((mw_lenW 0 116 : Nat) : Int) = 59049 := (rfl)
theorem ki116 : ((mw_lenI 116 : Nat) : Int) = 59049 := (rfl)
theorem kw117 : ((mw_lenW 0 117 : Nat) : Int) = 282 := (rfl)
theorem ki117 : ((mw_lenI 117 : Nat) : Int) = 282 := (rfl)
theorem kw118 : ((mw_lenW 0 118 : Nat) : Int) = 5 := (rfl)
theorem ki118 : ((mw_lenI 118 : Nat) : Int) = 5 := (rfl)
theorem kw119 : ((mw_lenW 2 119 : Nat) : Int) = 9 := (rfl)
theorem kw120 : ((mw_lenW 2 120 : Nat) : Int) = 9 := (rfl)
theorem kw121 : ((mw_lenW 0 121 : Nat) : Int) = 7625 := (rfl)
theorem ki121 : ((mw_lenI 121 : Nat) : Int) = 7625 := (rfl)
theorem kw122 : ((mw_lenW 0 122 : Nat) : Int) = 4 := (rfl)
theorem ki122 : ((mw_lenI 122 : Nat) : Int) = 4 := (rfl)
theorem kw123 : ((mw_lenW 0 123 : Nat) : Int) = 4 := (rfl)
theorem ki123 : ((mw_lenI 123 : Nat) : Int) = 4 := (rfl)
theorem kw124 : ((mw_lenW 2 124 : Nat) : Int) = 160 := (rfl)
theorem ki3000 : ((mw_lenI 3000 : Nat) : Int) = 6 := (rfl)
theorem tq0 {p : Nat} : ((0 : Int) + (p : Int)).toNat = 0 + p := by omega
theorem wq0 {p : Nat} (h : p < 1000000) : w32 (0 + (p : Int)) = 0 + (p : Int) := w32_eq (by omega) (by omega)
theorem tq1 {p : Nat} : ((1 : Int) + (p : Int)).toNat = 1 + p := by omega
theorem wq1 {p : Nat} (h : p < 1000000) : w32 (1 + (p : Int)) = 1 + (p : Int) := w32_eq (by omega) (by omega)
theorem tq2 {p : Nat} : ((2 : Int) + (p : Int)).toNat = 2 + p := by omega
theorem wq2 {p : Nat} (h : p < 1000000) : w32 (2 + (p : Int)) = 2 + (p : Int) := w32_eq (by omega) (by omega)
theorem tq3 {p : Nat} : ((3 : Int) + (p : Int)).toNat = 3 + p := by omega
theorem wq3 {p : Nat} (h : p < 1000000) : w32 (3 + (p : Int)) = 3 + (p : Int) := w32_eq (by omega) (by omega)
theorem tq4 {p : Nat} : ((4 : Int) + (p : Int)).toNat = 4 + p := by omega
theorem wq4 {p : Nat} (h : p < 1000000) : w32 (4 + (p : Int)) = 4 + (p : Int) := w32_eq (by omega) (by omega)
theorem tq5 {p : Nat} : ((5 : Int) + (p : Int)).toNat = 5 + p := by omega
theorem wq5 {p : Nat} (h : p < 1000000) : w32 (5 + (p : Int)) = 5 + (p : Int) := w32_eq (by omega) (by omega)
theorem tq6 {p : Nat} : ((6 : Int) + (p : Int)).toNat = 6 + p := by omega
theorem wq6 {p : Nat} (h : p < 1000000) : w32 (6 + (p : Int)) = 6 + (p : Int) := w32_eq (by omega) (by omega)
theorem tq7 {p : Nat} : ((7 : Int) + (p : Int)).toNat = 7 + p := by omega
theorem wq7 {p : Nat} (h : p < 1000000) : w32 (7 + (p : Int)) = 7 + (p : Int) := w32_eq (by omega) (by omega)
theorem tq8 {p : Nat} : ((8 : Int) + (p : Int)).toNat = 8 + p := by omega
theorem wq8 {p : Nat} (h : p < 1000000) : w32 (8 + (p : Int)) = 8 + (p : Int) := w32_eq (by omega) (by omega)
theorem tq9 {p : Nat} : ((9 : Int) + (p : Int)).toNat = 9 + p := by omega
theorem wq9 {p : Nat} (h : p < 1000000) : w32 (9 + (p : Int)) = 9 + (p : Int) := w32_eq (by omega) (by omega)
theorem tq10 {p : Nat} : ((10 : Int) + (p : Int)).toNat = 10 + p := by omega
theorem wq10 {p : Nat} (h : p < 1000000) : w32 (10 + (p : Int)) = 10 + (p : Int) := w32_eq (by omega) (by omega)
theorem tq11 {p : Nat} : ((11 : Int) + (p : Int)).toNat = 11 + p := by omega
theorem wq11 {p : Nat} (h : p < 1000000) : w32 (11 + (p : Int)) = 11 + (p : Int) := w32_eq (by omega) (by omega)
theorem tq12 {p : Nat} : ((12 : Int) + (p : Int)).toNat = 12 + p := by omega
theorem wq12 {p : Nat} (h : p < 1000000) : w32 (12 + (p : Int)) = 12 + (p : Int) := w32_eq (by omega) (by omega)
theorem tq13 {p : Nat} : ((13 : Int) + (p : Int)).toNat = 13 + p := by omega
theorem wq13 {p : Nat} (h : p < 1000000) : w32 (13 + (p : Int)) = 13 + (p : Int) := w32_eq (by omega) (by omega)
theorem tq14 {p : Nat} : ((14 : Int) + (p : Int)).toNat = 14 + p := by omega
theorem wq14 {p : Nat} (h : p < 1000000) : w32 (14 + (p : Int)) = 14 + (p : Int) := w32_eq (by omega) (by omega)
theorem tq15 {p : Nat} : ((15 : Int) + (p : Int)).toNat = 15 + p := by omega
theorem wq15 {p : Nat} (h : p < 1000000) : w32 (15 + (p : Int)) = 15 + (p : Int) := w32_eq (by omega) (by omega)
theorem tq16 {p : Nat} : ((16 : Int) + (p : Int)).toNat = 16 + p := by omega
theorem wq16 {p : Nat} (h : p < 1000000) : w32 (16 + (p : Int)) = 16 + (p : Int) := w32_eq (by omega) (by omega)
theorem tq17 {p : Nat} : ((17 : Int) + (p : Int)).toNat = 17 + p := by omega
theorem wq17 {p : Nat} (h : p < 1000000) : w32 (17 + (p : Int)) = 17 + (p : Int) := w32_eq (by omega) (by omega)
theorem tq18 {p : Nat} : ((18 : Int) + (p : Int)).toNat = 18 + p := by omega
theorem wq18 {p : Nat} (h : p < 1000000) : w32 (18 + (p : Int)) = 18 + (p : Int) := w32_eq (by omega) (by omega)
theorem tq19 {p : Nat} : ((19 : Int) + (p : Int)).toNat = 19 + p := by omega
theorem wq19 {p : Nat} (h : p < 1000000) : w32 (19 + (p : Int)) = 19 + (p : Int) := w32_eq (by omega) (by omega)
theorem tq20 {p : Nat} : ((20 : Int) + (p : Int)).toNat = 20 + p := by omega
theorem wq20 {p : Nat} (h : p < 1000000) : w32 (20 + (p : Int)) = 20 + (p : Int) := w32_eq (by omega) (by omega)
theorem tq21 {p : Nat} : ((21 : Int) + (p : Int)).toNat = 21 + p := by omega
theorem wq21 {p : Nat} (h : p < 1000000) : w32 (21 + (p : Int)) = 21 + (p : Int) := w32_eq (by omega) (by omega)
theorem tq22 {p : Nat} : ((22 : Int) + (p : Int)).toNat = 22 + p := by omega
theorem wq22 {p : Nat} (h : p < 1000000) : w32 (22 + (p : Int)) = 22 + (p : Int) := w32_eq (by omega) (by omega)
theorem tq23 {p : Nat} : ((23 : Int) + (p : Int)).toNat = 23 + p := by omega
theorem wq23 {p : Nat} (h : p < 1000000) : w32 (23 + (p : Int)) = 23 + (p : Int) := w32_eq (by omega) (by omega)
theorem tq24 {p : Nat} : ((24 : Int) + (p : Int)).toNat = 24 + p := by omega
theorem wq24 {p : Nat} (h : p < 1000000) : w32 (24 + (p : Int)) = 24 + (p : Int) := w32_eq (by omega) (by omega)
theorem tq25 {p : Nat} : ((25 : Int) + (p : Int)).toNat = 25 + p := by omega
theorem wq25 {p : Nat} (h : p < 1000000) : w32 (25 + (p : Int)) = 25 + (p : Int) := w32_eq (by omega) (by omega)
theorem tq26 {p : Nat} : ((26 : Int) + (p : Int)).toNat = 26 + p := by omega
theorem wq26 {p : Nat} (h : p < 1000000) : w32 (26 + (p : Int)) = 26 + (p : Int) := w32_eq (by omega) (by omega)
theorem tq27 {p : Nat} : ((27 : Int) + (p : Int)).toNat = 27 + p := by omega
theorem wq27 {p : Nat} (h : p < 1000000) : w32 (27 + (p : Int)) = 27 + (p : Int) := w32_eq (by omega) (by omega)
theorem tq28 {p : Nat} : ((28 : Int) + (p : Int)).toNat = 28 + p := by omega
theorem wq28 {p : Nat} (h : p < 1000000) : w32 (28 + (p : Int)) = 28 + (p : Int) := w32_eq (by omega) (by omega)
theorem tq29 {p : Nat} : ((29 : Int) + (p : Int)).toNat = 29 + p := by omega
theorem wq29 {p : Nat} (h : p < 1000000) : w32 (29 + (p : Int)) = 29 + (p : Int) := w32_eq (by omega) (by omega)
theorem tq30 {p : Nat} : ((30 : Int) + (p : Int)).toNat = 30 + p := by omega
theorem wq30 {p : Nat} (h : p < 1000000) : w32 (30 + (p : Int)) = 30 + (p : Int) := w32_eq (by omega) (by omega)
theorem tq31 {p : Nat} : ((31 : Int) + (p : Int)).toNat = 31 + p := by omega
theorem wq31 {p : Nat} (h : p < 1000000) : w32 (31 + (p : Int)) = 31 + (p : Int) := w32_eq (by omega) (by omega)
theorem tq32 {p : Nat} : ((32 : Int) + (p : Int)).toNat = 32 + p := by omega
theorem wq32 {p : Nat} (h : p < 1000000) : w32 (32 + (p : Int)) = 32 + (p : Int) := w32_eq (by omega) (by omega)
theorem tq33 {p : Nat} : ((33 : Int) + (p : Int)).toNat = 33 + p := by omega
theorem wq33 {p : Nat} (h : p < 1000000) : w32 (33 + (p : Int)) = 33 + (p : Int) := w32_eq (by omega) (by omega)
theorem tq34 {p : Nat} : ((34 : Int) + (p : Int)).toNat = 34 + p := by omega
theorem wq34 {p : Nat} (h : p < 1000000) : w32 (34 + (p : Int)) = 34 + (p : Int) := w32_eq (by omega) (by omega)
theorem tq35 {p : Nat} : ((35 : Int) + (p : Int)).toNat = 35 + p := by omega
theorem wq35 {p : Nat} (h : p < 1000000) : w32 (35 + (p : Int)) = 35 + (p : Int) := w32_eq (by omega) (by omega)
theorem tq36 {p : Nat} : ((36 : Int) + (p : Int)).toNat = 36 + p := by omega
theorem wq36 {p : Nat} (h : p < 1000000) : w32 (36 + (p : Int)) = 36 + (p : Int) := w32_eq (by omega) (by omega)
theorem tq37 {p : Nat} : ((37 : Int) + (p : Int)).toNat = 37 + p := by omega
theorem wq37 {p : Nat} (h : p < 1000000) : w32 (37 + (p : Int)) = 37 + (p : Int) := w32_eq (by omega) (by omega)
theorem tq38 {p : Nat} : ((38 : Int) + (p : Int)).toNat = 38 + p := by omega
theorem wq38 {p : Nat} (h : p < 1000000) : w32 (38 + (p : Int)) = 38 + (p : Int) := w32_eq (by omega) (by omega)
theorem tq39 {p : Nat} : ((39 : Int) + (p : Int)).toNat = 39 + p := by omega
theorem wq39 {p : Nat} (h : p < 1000000) : w32 (39 + (p : Int)) = 39 + (p : Int) := w32_eq (by omega) (by omega)
theorem tq40 {p : Nat} : ((40 : Int) + (p : Int)).toNat = 40 + p := by omega
theorem wq40 {p : Nat} (h : p < 1000000) : w32 (40 + (p : Int)) = 40 + (p : Int) := w32_eq (by omega) (by omega)
theorem tq41 {p : Nat} : ((41 : Int) + (p : Int)).toNat = 41 + p := by omega
theorem wq41 {p : Nat} (h : p < 1000000) : w32 (41 + (p : Int)) = 41 + (p : Int) := w32_eq (by omega) (by omega)
theorem tq42 {p : Nat} : ((42 : Int) + (p : Int)).toNat = 42 + p := by omega
theorem wq42 {p : Nat} (h : p < 1000000) : w32 (42 + (p : Int)) = 42 + (p : Int) := w32_eq (by omega) (by omega)
theorem tq43 {p : Nat} : ((43 : Int) + (p : Int)).toNat = 43 + p := by omega
theorem wq43 {p : Nat} (h : p < 1000000) : w32 (43 + (p : Int)) = 43 + (p : Int) := w32_eq (by omega) (by omega)
theorem tq44 {p : Nat} : ((44 : Int) + (p : Int)).toNat = 44 + p := by omega
theorem wq44 {p : Nat} (h : p < 1000000) : w32 (44 + (p : Int)) = 44 + (p : Int) := w32_eq (by omega) (by omega)
theorem tq45 {p : Nat} : ((45 : Int) + (p : Int)).toNat = 45 + p := by omega
theorem wq45 {p : Nat} (h : p < 1000000) : w32 (45 + (p : Int)) = 45 + (p : Int) := w32_eq (by omega) (by omega)
theorem tq46 {p : Nat} : ((46 : Int) + (p : Int)).toNat = 46 + p := by omega
theorem wq46 {p : Nat} (h : p < 1000000) : w32 (46 + (p : Int)) = 46 + (p : Int) := w32_eq (by omega) (by omega)
theorem tq47 {p : Nat} : ((47 : Int) + (p : Int)).toNat = 47 + p := by omega
theorem wq47 {p : Nat} (h : p < 1000000) : w32 (47 + (p : Int)) = 47 + (p : Int) := w32_eq (by omega) (by omega)
theorem tq48 {p : Nat} : ((48 : Int) + (p : Int)).toNat = 48 + p := by omega
theorem wq48 {p : Nat} (h : p < 1000000) : w32 (48 + (p : Int)) = 48 + (p : Int) := w32_eq (by omega) (by omega)
theorem tq49 {p : Nat} : ((49 : Int) + (p : Int)).toNat = 49 + p := by omega
theorem wq49 {p : Nat} (h : p < 1000000) : w32 (49 + (p : Int)) = 49 + (p : Int) := w32_eq (by omega) (by omega)
theorem tq50 {p : Nat} : ((50 : Int) + (p : Int)).toNat = 50 + p := by omega
theorem wq50 {p : Nat} (h : p < 1000000) : w32 (50 + (p : Int)) = 50 + (p : Int) := w32_eq (by omega) (by omega)
theorem tq51 {p : Nat} : ((51 : Int) + (p : Int)).toNat = 51 + p := by omega
theorem wq51 {p : Nat} (h : p < 1000000) : w32 (51 + (p : Int)) = 51 + (p : Int) := w32_eq (by omega) (by omega)
theorem tq52 {p : Nat} : ((52 : Int) + (p : Int)).toNat = 52 + p := by omega
theorem wq52 {p : Nat} (h : p < 1000000) : w32 (52 + (p : Int)) = 52 + (p : Int) := w32_eq (by omega) (by omega)
theorem tq53 {p : Nat} : ((53 : Int) + (p : Int)).toNat = 53 + p := by omega
theorem wq53 {p : Nat} (h : p < 1000000) : w32 (53 + (p : Int)) = 53 + (p : Int) := w32_eq (by omega) (by omega)
theorem tq54 {p : Nat} : ((54 : Int) + (p : Int)).toNat = 54 + p := by omega
theorem wq54 {p : Nat} (h : p < 1000000) : w32 (54 + (p : Int)) = 54 + (p : Int) := w32_eq (by omega) (by omega)
theorem tq55 {p : Nat} : ((55 : Int) + (p : Int)).toNat = 55 + p := by omega
theorem wq55 {p : Nat} (h : p < 1000000) : w32 (55 + (p : Int)) = 55 + (p : Int) := w32_eq (by omega) (by omega)
theorem tq56 {p : Nat} : ((56 : Int) + (p : Int)).toNat = 56 + p := by omega
theorem wq56 {p : Nat} (h : p < 1000000) : w32 (56 + (p : Int)) = 56 + (p : Int) := w32_eq (by omega) (by omega)
theorem tq57 {p : Nat} : ((57 : Int) + (p : Int)).toNat = 57 + p := by omega
theorem wq57 {p : Nat} (h : p < 1000000) : w32 (57 + (p : Int)) = 57 + (p : Int) := w32_eq (by omega) (by omega)
theorem tq58 {p : Nat} : ((58 : Int) + (p : Int)).toNat = 58 + p := by omega
theorem wq58 {p : Nat} (h : p < 1000000) : w32 (58 + (p : Int)) = 58 + (p : Int) := w32_eq (by omega) (by omega)
theorem tq59 {p : Nat} : ((59 : Int) + (p : Int)).toNat = 59 + p := by omega
theorem wq59 {p : Nat} (h : p < 1000000) : w32 (59 + (p : Int)) = 59 + (p : Int) := w32_eq (by omega) (by omega)
theorem tq60 {p : Nat} : ((60 : Int) + (p : Int)).toNat = 60 + p := by omega
theorem wq60 {p : Nat} (h : p < 1000000) : w32 (60 + (p : Int)) = 60 + (p : Int) := w32_eq (by omega) (by omega)
theorem tq61 {p : Nat} : ((61 : Int) + (p : Int)).toNat = 61 + p := by omega
theorem wq61 {p : Nat} (h : p < 1000000) : w32 (61 + (p : Int)) = 61 + (p : Int) := w32_eq (by omega) (by omega)
theorem tq62 {p : Nat} : ((62 : Int) + (p : Int)).toNat = 62 + p := by omega
theorem wq62 {p : Nat} (h : p < 1000000) : w32 (62 + (p : Int)) = 62 + (p : Int) := w32_eq (by omega) (by omega)
theorem tq63 {p : Nat} : ((63 : Int) + (p : Int)).toNat = 63 + p := by omega
theorem wq63 {p : Nat} (h : p < 1000000) : w32 (63 + (p : Int)) = 63 + (p : Int) := w32_eq (by omega) (by omega)
theorem tq64 {p : Nat} : ((64 : Int) + (p : Int)).toNat = 64 + p := by omega
theorem wq64 {p : Nat} (h : p < 1000000) : w32 (64 + (p : Int)) = 64 + (p : Int) := w32_eq (by omega) (by omega)
theorem tq65 {p : Nat} : ((65 : Int) + (p : Int)).toNat = 65 + p := by omega
theorem wq65 {p : Nat} (h : p < 1000000) : w32 (65 + (p : Int)) = 65 + (p : Int) := w32_eq (by omega) (by omega)
theorem tq66 {p : Nat} : ((66 : Int) + (p : Int)).toNat = 66 + p := by omega
theorem wq66 {p : Nat} (h : p < 1000000) : w32 (66 + (p : Int)) = 66 + (p : Int) := w32_eq (by omega) (by omega)
theorem tq67 {p : Nat} : ((67 : Int) + (p : Int)).toNat = 67 + p := by omega
theorem wq67 {p : Nat} (h : p < 1000000) : w32 (67 + (p : Int)) = 67 + (p : Int) := w32_eq (by omega) (by omega)
theorem tq68 {p : Nat} : ((68 : Int) + (p : Int)).toNat = 68 + p := by omega
theorem wq68 {p : Nat} (h : p < 1000000) : w32 (68 + (p : Int)) = 68 + (p : Int) := w32_eq (by omega) (by omega)
theorem tq69 {p : Nat} : ((69 : Int) + (p : Int)).toNat = 69 + p := by omega
theorem wq69 {p : Nat} (h : p < 1000000) : w32 (69 + (p : Int)) = 69 + (p : Int) := w32_eq (by omega) (by omega)
theorem tq70 {p : Nat} : ((70 : Int) + (p : Int)).toNat = 70 + p := by omega
theorem wq70 {p : Nat} (h : p < 1000000) : w32 (70 + (p : Int)) = 70 + (p : Int) := w32_eq (by omega) (by omega)
theorem tq71 {p : Nat} : ((71 : Int) + (p : Int)).toNat = 71 + p := by omega
theorem wq71 {p : Nat} (h : p < 1000000) : w32 (71 + (p : Int)) = 71 + (p : Int) := w32_eq (by omega) (by omega)
theorem tq72 {p : Nat} : ((72 : Int) + (p : Int)).toNat = 72 + p := by omega
theorem wq72 {p : Nat} (h : p < 1000000) : w32 (72 + (p : Int)) = 72 + (p : Int) := w32_eq (by omega) (by omega)
theorem tq73 {p : Nat} : ((73 : Int) + (p : Int)).toNat = 73 + p := by omega
theorem wq73 {p : Nat} (h : p < 1000000) : w32 (73 + (p : Int)) = 73 + (p : Int) := w32_eq (by omega) (by omega)
theorem tq74 {p : Nat} : ((74 : Int) + (p : Int)).toNat = 74 + p := by omega
theorem wq74 {p : Nat} (h : p < 1000000) : w32 (74 + (p : Int)) = 74 + (p : Int) := w32_eq (by omega) (by omega)
theorem tq75 {p : Nat} : ((75 : Int) + (p : Int)).toNat = 75 + p := by omega
theorem wq75 {p : Nat} (h : p < 1000000) : w32 (75 + (p : Int)) = 75 + (p : Int) := w32_eq (by omega) (by omega)
theorem tq76 {p : Nat} : ((76 : Int) + (p : Int)).toNat = 76 + p := by omega
theorem wq76 {p : Nat} (h : p < 1000000) : w32 (76 + (p : Int)) = 76 + (p : Int) := w32_eq (by omega) (by omega)
theorem tq77 {p : Nat} : ((77 : Int) + (p : Int)).toNat = 77 + p := by omega
theorem wq77 {p : Nat} (h : p < 1000000) : w32 (77 + (p : Int)) = 77 + (p : Int) := w32_eq (by omega) (by omega)
theorem tq78 {p : Nat} : ((78 : Int) + (p : Int)).toNat = 78 + p := by omega
theorem wq78 {p : Nat} (h : p < 1000000) : w32 (78 + (p : Int)) = 78 + (p : Int) := w32_eq (by omega) (by omega)
theorem tq79 {p : Nat} : ((79 : Int) + (p : Int)).toNat = 79 + p := by omega
theorem wq79 {p : Nat} (h : p < 1000000) : w32 (79 + (p : Int)) = 79 + (p : Int) := w32_eq (by omega) (by omega)
theorem tq80 {p : Nat} : ((80 : Int) + (p : Int)).toNat = 80 + p := by omega
theorem wq80 {p : Nat} (h : p < 1000000) : w32 (80 + (p : Int)) = 80 + (p : Int) := w32_eq (by omega) (by omega)
theorem tq81 {p : Nat} : ((81 : Int) + (p : Int)).toNat = 81 + p := by omega
theorem wq81 {p : Nat} (h : p < 1000000) : w32 (81 + (p : Int)) = 81 + (p : Int) := w32_eq (by omega) (by omega)
theorem tq82 {p : Nat} : ((82 : Int) + (p : Int)).toNat = 82 + p := by omega
theorem wq82 {p : Nat} (h : p < 1000000) : w32 (82 + (p : Int)) = 82 + (p : Int) := w32_eq (by omega) (by omega)
theorem tq83 {p : Nat} : ((83 : Int) + (p : Int)).toNat = 83 + p := by omega
theorem wq83 {p : Nat} (h : p < 1000000) : w32 (83 + (p : Int)) = 83 + (p : Int) := w32_eq (by omega) (by omega)
theorem tq84 {p : Nat} : ((84 : Int) + (p : Int)).toNat = 84 + p := by omega
theorem wq84 {p : Nat} (h : p < 1000000) : w32 (84 + (p : Int)) = 84 + (p : Int) := w32_eq (by omega) (by omega)
theorem tq85 {p : Nat} : ((85 : Int) + (p : Int)).toNat = 85 + p := by omega
theorem wq85 {p : Nat} (h : p < 1000000) : w32 (85 + (p : Int)) = 85 + (p : Int) := w32_eq (by omega) (by omega)
theorem tq86 {p : Nat} : ((86 : Int) + (p : Int)).toNat = 86 + p := by omega
theorem wq86 {p : Nat} (h : p < 1000000) : w32 (86 + (p : Int)) = 86 + (p : Int) := w32_eq (by omega) (by omega)
theorem tq87 {p : Nat} : ((87 : Int) + (p : Int)).toNat = 87 + p := by omega
theorem wq87 {p : Nat} (h : p < 1000000) : w32 (87 + (p : Int)) = 87 + (p : Int) := w32_eq (by omega) (by omega)
theorem tq88 {p : Nat} : ((88 : Int) + (p : Int)).toNat = 88 + p := by omega
theorem wq88 {p : Nat} (h : p < 1000000) : w32 (88 + (p : Int)) = 88 + (p : Int) := w32_eq (by omega) (by omega)
theorem tq89 {p : Nat} : ((89 : Int) + (p : Int)).toNat = 89 + p := by omega
theorem wq89 {p : Nat} (h : p < 1000000) : w32 (89 + (p : Int)) = 89 + (p : Int) := w32_eq (by omega) (by omega)
theorem tq90 {p : Nat} : ((90 : Int) + (p : Int)).toNat = 90 + p := by omega
theorem wq90 {p : Nat} (h : p < 1000000) : w32 (90 + (p : Int)) = 90 + (p : Int) := w32_eq (by omega) (by omega)
theorem tq91 {p : Nat} : ((91 : Int) + (p : Int)).toNat = 91 + p := by omega
theorem wq91 {p : Nat} (h : p < 1000000) : w32 (91 + (p : Int)) = 91 + (p : Int) := w32_eq (by omega) (by omega)
theorem tq92 {p : Nat} : ((92 : Int) + (p : Int)).toNat = 92 + p := by omega
theorem wq92 {p : Nat} (h : p < 1000000) : w32 (92 + (p : Int)) = 92 + (p : Int) := w32_eq (by omega) (by omega)
theorem tq93 {p : Nat} : ((93 : Int) + (p : Int)).toNat = 93 + p := by omega
theorem wq93 {p : Nat} (h : p < 1000000) : w32 (93 + (p : Int)) = 93 + (p : Int) := w32_eq (by omega) (by omega)
theorem tq94 {p : Nat} : ((94 : Int) + (p : Int)).toNat = 94 + p := by omega
theorem wq94 {p : Nat} (h : p < 1000000) : w32 (94 + (p : Int)) = 94 + (p : Int) := w32_eq (by omega) (by omega)
theorem tq95 {p : Nat} : ((95 : Int) + (p : Int)).toNat = 95 + p := by omega
theorem wq95 {p : Nat} (h : p < 1000000) : w32 (95 + (p : Int)) = 95 + (p : Int) := w32_eq (by omega) (by omega)
theorem tq96 {p : Nat} : ((96 : Int) + (p : Int)).toNat = 96 + p := by omega
theorem wq96 {p : Nat} (h : p < 1000000) : w32 (96 + (p : Int)) = 96 + (p : Int) := w32_eq (by omega) (by omega)
theorem tq97 {p : Nat} : ((97 : Int) + (p : Int)).toNat = 97 + p := by omega
theorem wq97 {p : Nat} (h : p < 1000000) : w32 (97 + (p : Int)) = 97 + (p : Int) := w32_eq (by omega) (by omega)
theorem tq98 {p : Nat} : ((98 : Int) + (p : Int)).toNat = 98 + p := by omega
theorem wq98 {p : Nat} (h : p < 1000000) : w32 (98 + (p : Int)) = 98 + (p : Int) := w32_eq (by omega) (by omega)
theorem tq99 {p : Nat} : ((99 : Int) + (p : Int)).toNat = 99 + p := by omega
theorem wq99 {p : Nat} (h : p < 1000000) : w32 (99 + (p : Int)) = 99 + (p : Int) := w32_eq (by omega) (by omega)
theorem tq100 {p : Nat} : ((100 : Int) + (p : Int)).toNat = 100 + p := by omega
theorem wq100 {p : Nat} (h : p < 1000000) : w32 (100 + (p : Int)) = 100 + (p : Int) := w32_eq (by omega) (by omega)
theorem tq101 {p : Nat} : ((101 : Int) + (p : Int)).toNat = 101 + p := by omega
theorem wq101 {p : Nat} (h : p < 1000000) : w32 (101 + (p : Int)) = 101 + (p : Int) := w32_eq (by omega) (by omega)
theorem tq102 {p : Nat} : ((102 : Int) + (p : Int)).toNat = 102 + p := by omega
theorem wq102 {p : Nat} (h : p < 1000000) : w32 (102 + (p : Int)) = 102 + (p : Int) := w32_eq (by omega) (by omega)
theorem tq103 {p : Nat} : ((103 : Int) + (p : Int)).toNat = 103 + p := by omega
theorem wq103 {p : Nat} (h : p < 1000000) : w32 (103 + (p : Int)) = 103 + (p : Int) := w32_eq (by omega) (by omega)
theorem tq104 {p : Nat} : ((104 : Int) + (p : Int)).toNat = 104 + p := by omega
theorem wq104 {p : Nat} (h : p < 1000000) : w32 (104 + (p : Int)) = 104 + (p : Int) := w32_eq (by omega) (by omega)
theorem tq105 {p : Nat} : ((105 : Int) + (p : Int)).toNat = 105 + p := by omega
theorem wq105 {p : Nat} (h : p < 1000000) : w32 (105 + (p : Int)) = 105 + (p : Int) := w32_eq (by omega) (by omega)
theorem tq106 {p : Nat} : ((106 : Int) + (p : Int)).toNat = 106 + p := by omega
theorem wq106 {p : Nat} (h : p < 1000000) : w32 (106 + (p : Int)) = 106 + (p : Int) := w32_eq (by omega) (by omega)
theorem tq107 {p : Nat} : ((107 : Int) + (p : Int)).toNat = 107 + p := by omega
theorem wq107 {p : Nat} (h : p < 1000000) : w32 (107 + (p : Int)) = 107 + (p : Int) := w32_eq (by omega) (by omega)
theorem tq108 {p : Nat} : ((108 : Int) + (p : Int)).toNat = 108 + p := by omega
theorem wq108 {p : Nat} (h : p < 1000000) : w32 (108 + (p : Int)) = 108 + (p : Int) := w32_eq (by omega) (by omega)
theorem tq109 {p : Nat} : ((109 : Int) + (p : Int)).toNat = 109 + p := by omega
theorem wq109 {p : Nat} (h : p < 1000000) : w32 (109 + (p : Int)) = 109 + (p : Int) := w32_eq (by omega) (by omega)
theorem tq110 {p : Nat} : ((110 : Int) + (p : Int)).toNat = 110 + p := by omega
theorem wq110 {p : Nat} (h : p < 1000000) : w32 (110 + (p : Int)) = 110 + (p : Int) := w32_eq (by omega) (by omega)
theorem tq111 {p : Nat} : ((111 : Int) + (p : Int)).toNat = 111 + p := by omega
theorem wq111 {p : Nat} (h : p < 1000000) : w32 (111 + (p : Int)) = 111 + (p : Int) := w32_eq (by omega) (by omega)
theorem tq112 {p : Nat} : ((112 : Int) + (p : Int)).toNat = 112 + p := by omega
theorem wq112 {p : Nat} (h : p < 1000000) : w32 (112 + (p : Int)) = 112 + (p : Int) := w32_eq (by omega) (by omega)
theorem tq113 {p : Nat} : ((113 : Int) + (p : Int)).toNat = 113 + p := by omega
theorem wq113 {p : Nat} (h : p < 1000000) : w32 (113 + (p : Int)) = 113 + (p : Int) := w32_eq (by omega) (by omega)
theorem tq114 {p : Nat} : ((114 : Int) + (p : Int)).toNat = 114 + p := by omega
theorem wq114 {p : Nat} (h : p < 1000000) : w32 (114 + (p : Int)) = 114 + (p : Int) := w32_eq (by omega) (by omega)
theorem tq115 {p : Nat} : ((115 : Int) + (p : Int)).toNat = 115 + p := by omega
theorem wq115 {p : Nat} (h : p < 1000000) : w32 (115 + (p : Int)) = 115 + (p : Int) := w32_eq (by omega) (by omega)
theorem tq116 {p : Nat} : ((116 : Int) + (p : Int)).toNat = 116 + p := by omega
theorem wq116 {p : Nat} (h : p < 1000000) : w32 (116 + (p : Int)) = 116 + (p : Int) := w32_eq (by omega) (by omega)
theorem tq117 {p : Nat} : ((117 : Int) + (p : Int)).toNat = 117 + p := by omega
theorem wq117 {p : Nat} (h : p < 1000000) : w32 (117 + (p : Int)) = 117 + (p : Int) := w32_eq (by omega) (by omega)
theorem tq118 {p : Nat} : ((118 : Int) + (p : Int)).toNat = 118 + p := by omega
theorem wq118 {p : Nat} (h : p < 1000000) : w32 (118 + (p : Int)) = 118 + (p : Int) := w32_eq (by omega) (by omega)
theorem tq119 {p : Nat} : ((119 : Int) + (p : Int)).toNat = 119 + p := by omega
theorem wq119 {p : Nat} (h : p < 1000000) : w32 (119 + (p : Int)) = 119 + (p : Int) := w32_eq (by omega) (by omega)
theorem tq120 {p : Nat} : ((120 : Int) + (p : Int)).toNat = 120 + p := by omega
theorem wq120 {p : Nat} (h : p < 1000000) : w32 (120 + (p : Int)) = 120 + (p : Int) := w32_eq (by omega) (by omega)
theorem tq559 {p : Nat} : ((559 : Int) + (p : Int)).toNat = 559 + p := by omega
theorem wq559 {p : Nat} (h : p < 1000000) : w32 (559 + (p : Int)) = 559 + (p : Int) := w32_eq (by omega) (by omega)
theorem tq560 {p : Nat} : ((560 : Int) + (p : Int)).toNat = 560 + p := by omega
theorem wq560 {p : Nat} (h : p < 1000000) : w32 (560 + (p : Int)) = 560 + (p : Int) := w32_eq (by omega) (by omega)
theorem tq1460 {p : Nat} : ((1460 : Int) + (p : Int)).toNat = 1460 + p := by omega
theorem wq1460 {p : Nat} (h : p < 1000000) : w32 (1460 + (p : Int)) = 1460 + (p : Int) := w32_eq (by omega) (by omega)
theorem tq2920 {p : Nat} : ((2920 : Int) + (p : Int)).toNat = 2920 + p := by omega
theorem wq2920 {p : Nat} (h : p < 1000000) : w32 (2920 + (p : Int)) = 2920 + (p : Int) := w32_eq (by omega) (by omega)
