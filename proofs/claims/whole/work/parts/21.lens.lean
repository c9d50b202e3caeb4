/-! how long the rows are, as whole numbers -/
theorem kw2 : ((mw_lenW 0 2 : Nat) : Int) = 900 := rfl
theorem ki2 : ((mw_lenI 2 : Nat) : Int) = 900 := rfl
theorem kw4 : ((mw_lenW 0 4 : Nat) : Int) = 3 := rfl
theorem ki4 : ((mw_lenI 4 : Nat) : Int) = 3 := rfl
theorem kw5 : ((mw_lenW 0 5 : Nat) : Int) = 3 := rfl
theorem ki5 : ((mw_lenI 5 : Nat) : Int) = 3 := rfl
theorem kw6 : ((mw_lenW 0 6 : Nat) : Int) = 4 := rfl
theorem ki6 : ((mw_lenI 6 : Nat) : Int) = 4 := rfl
theorem kw7 : ((mw_lenW 0 7 : Nat) : Int) = 8 := rfl
theorem ki7 : ((mw_lenI 7 : Nat) : Int) = 8 := rfl
theorem kw8 : ((mw_lenW 0 8 : Nat) : Int) = 8 := rfl
theorem ki8 : ((mw_lenI 8 : Nat) : Int) = 8 := rfl
theorem kw9 : ((mw_lenW 0 9 : Nat) : Int) = 8 := rfl
theorem ki9 : ((mw_lenI 9 : Nat) : Int) = 8 := rfl
theorem kw10 : ((mw_lenW 0 10 : Nat) : Int) = 8 := rfl
theorem ki10 : ((mw_lenI 10 : Nat) : Int) = 8 := rfl
theorem kw11 : ((mw_lenW 0 11 : Nat) : Int) = 900 := rfl
theorem ki11 : ((mw_lenI 11 : Nat) : Int) = 900 := rfl
theorem kw12 : ((mw_lenW 0 12 : Nat) : Int) = 64 := rfl
theorem ki12 : ((mw_lenI 12 : Nat) : Int) = 64 := rfl
theorem kw14 : ((mw_lenW 0 14 : Nat) : Int) = 3 := rfl
theorem ki14 : ((mw_lenI 14 : Nat) : Int) = 3 := rfl
theorem kw15 : ((mw_lenW 0 15 : Nat) : Int) = 3 := rfl
theorem ki15 : ((mw_lenI 15 : Nat) : Int) = 3 := rfl
theorem kw16 : ((mw_lenW 0 16 : Nat) : Int) = 4 := rfl
theorem ki16 : ((mw_lenI 16 : Nat) : Int) = 4 := rfl
theorem kw17 : ((mw_lenW 0 17 : Nat) : Int) = 8 := rfl
theorem ki17 : ((mw_lenI 17 : Nat) : Int) = 8 := rfl
theorem kw18 : ((mw_lenW 0 18 : Nat) : Int) = 8 := rfl
theorem ki18 : ((mw_lenI 18 : Nat) : Int) = 8 := rfl
theorem kw19 : ((mw_lenW 0 19 : Nat) : Int) = 8 := rfl
theorem ki19 : ((mw_lenI 19 : Nat) : Int) = 8 := rfl
theorem kw20 : ((mw_lenW 0 20 : Nat) : Int) = 8 := rfl
theorem ki20 : ((mw_lenI 20 : Nat) : Int) = 8 := rfl
theorem kw21 : ((mw_lenW 0 21 : Nat) : Int) = 900 := rfl
theorem ki21 : ((mw_lenI 21 : Nat) : Int) = 900 := rfl
theorem kw23 : ((mw_lenW 0 23 : Nat) : Int) = 64 := rfl
theorem ki23 : ((mw_lenI 23 : Nat) : Int) = 64 := rfl
theorem kw24 : ((mw_lenW 0 24 : Nat) : Int) = 6 := rfl
theorem ki24 : ((mw_lenI 24 : Nat) : Int) = 6 := rfl
theorem kr26 : (((mw_rows 26).length : Nat) : Int) = 10 := rfl
theorem kw27 : ((mw_lenW 0 27 : Nat) : Int) = 35 := rfl
theorem ki27 : ((mw_lenI 27 : Nat) : Int) = 35 := rfl
theorem kw28 : ((mw_lenW 0 28 : Nat) : Int) = 35 := rfl
theorem ki28 : ((mw_lenI 28 : Nat) : Int) = 35 := rfl
theorem kw29 : ((mw_lenW 0 29 : Nat) : Int) = 35 := rfl
theorem ki29 : ((mw_lenI 29 : Nat) : Int) = 35 := rfl
theorem kw30 : ((mw_lenW 0 30 : Nat) : Int) = 35 := rfl
theorem ki30 : ((mw_lenI 30 : Nat) : Int) = 35 := rfl
theorem kw31 : ((mw_lenW 0 31 : Nat) : Int) = 35 := rfl
theorem ki31 : ((mw_lenI 31 : Nat) : Int) = 35 := rfl
theorem kw32 : ((mw_lenW 0 32 : Nat) : Int) = 35 := rfl
theorem ki32 : ((mw_lenI 32 : Nat) : Int) = 35 := rfl
theorem kw33 : ((mw_lenW 0 33 : Nat) : Int) = 35 := rfl
theorem ki33 : ((mw_lenI 33 : Nat) : Int) = 35 := rfl
theorem kw34 : ((mw_lenW 0 34 : Nat) : Int) = 35 := rfl
theorem ki34 : ((mw_lenI 34 : Nat) : Int) = 35 := rfl
theorem kw35 : ((mw_lenW 0 35 : Nat) : Int) = 35 := rfl
theorem ki35 : ((mw_lenI 35 : Nat) : Int) = 35 := rfl
theorem kw36 : ((mw_lenW 0 36 : Nat) : Int) = 35 := rfl
theorem ki36 : ((mw_lenI 36 : Nat) : Int) = 35 := rfl
theorem kw38 : ((mw_lenW 0 38 : Nat) : Int) = 4 := rfl
theorem ki38 : ((mw_lenI 38 : Nat) : Int) = 4 := rfl
theorem kw39 : ((mw_lenW 0 39 : Nat) : Int) = 4 := rfl
theorem ki39 : ((mw_lenI 39 : Nat) : Int) = 4 := rfl
theorem kr40 : (((mw_rows 40).length : Nat) : Int) = 4 := rfl
theorem kw41 : ((mw_lenW 2 41 : Nat) : Int) = 40 := rfl
theorem kw42 : ((mw_lenW 2 42 : Nat) : Int) = 40 := rfl
theorem kw43 : ((mw_lenW 2 43 : Nat) : Int) = 40 := rfl
theorem kw44 : ((mw_lenW 2 44 : Nat) : Int) = 40 := rfl
theorem kr46 : (((mw_rows 46).length : Nat) : Int) = 5 := rfl
theorem kw47 : ((mw_lenW 0 47 : Nat) : Int) = 35 := rfl
theorem ki47 : ((mw_lenI 47 : Nat) : Int) = 35 := rfl
theorem kw48 : ((mw_lenW 0 48 : Nat) : Int) = 35 := rfl
theorem ki48 : ((mw_lenI 48 : Nat) : Int) = 35 := rfl
theorem kw49 : ((mw_lenW 0 49 : Nat) : Int) = 35 := rfl
theorem ki49 : ((mw_lenI 49 : Nat) : Int) = 35 := rfl
theorem kw50 : ((mw_lenW 0 50 : Nat) : Int) = 35 := rfl
theorem ki50 : ((mw_lenI 50 : Nat) : Int) = 35 := rfl
theorem kw51 : ((mw_lenW 0 51 : Nat) : Int) = 35 := rfl
theorem ki51 : ((mw_lenI 51 : Nat) : Int) = 35 := rfl
theorem kw52 : ((mw_lenW 0 52 : Nat) : Int) = 4 := rfl
theorem ki52 : ((mw_lenI 52 : Nat) : Int) = 4 := rfl
theorem kw53 : ((mw_lenW 2 53 : Nat) : Int) = 201 := rfl
theorem kw54 : ((mw_lenW 2 54 : Nat) : Int) = 201 := rfl
theorem kr56 : (((mw_rows 56).length : Nat) : Int) = 5 := rfl
theorem kw57 : ((mw_lenW 0 57 : Nat) : Int) = 35 := rfl
theorem ki57 : ((mw_lenI 57 : Nat) : Int) = 35 := rfl
theorem kw58 : ((mw_lenW 0 58 : Nat) : Int) = 35 := rfl
theorem ki58 : ((mw_lenI 58 : Nat) : Int) = 35 := rfl
theorem kw59 : ((mw_lenW 0 59 : Nat) : Int) = 35 := rfl
theorem ki59 : ((mw_lenI 59 : Nat) : Int) = 35 := rfl
theorem kw60 : ((mw_lenW 0 60 : Nat) : Int) = 35 := rfl
theorem ki60 : ((mw_lenI 60 : Nat) : Int) = 35 := rfl
theorem kw61 : ((mw_lenW 0 61 : Nat) : Int) = 35 := rfl
theorem ki61 : ((mw_lenI 61 : Nat) : Int) = 35 := rfl
theorem kw62 : ((mw_lenW 0 62 : Nat) : Int) = 5 := rfl
theorem ki62 : ((mw_lenI 62 : Nat) : Int) = 5 := rfl
theorem kw63 : ((mw_lenW 2 63 : Nat) : Int) = 9 := rfl
theorem kw64 : ((mw_lenW 2 64 : Nat) : Int) = 9 := rfl
theorem kw66 : ((mw_lenW 0 66 : Nat) : Int) = 5 := rfl
theorem ki66 : ((mw_lenI 66 : Nat) : Int) = 5 := rfl
theorem kw67 : ((mw_lenW 0 67 : Nat) : Int) = 5 := rfl
theorem ki67 : ((mw_lenI 67 : Nat) : Int) = 5 := rfl
theorem kw68 : ((mw_lenW 1 68 : Nat) : Int) = 5 := rfl
theorem kb68 : ((mw_lenB 68 : Nat) : Int) = 5 := rfl
theorem kw69 : ((mw_lenW 0 69 : Nat) : Int) = 35 := rfl
theorem ki69 : ((mw_lenI 69 : Nat) : Int) = 35 := rfl
theorem kw70 : ((mw_lenW 0 70 : Nat) : Int) = 30 := rfl
theorem ki70 : ((mw_lenI 70 : Nat) : Int) = 30 := rfl
theorem kw71 : ((mw_lenW 0 71 : Nat) : Int) = 5 := rfl
theorem ki71 : ((mw_lenI 71 : Nat) : Int) = 5 := rfl
theorem kw72 : ((mw_lenW 0 72 : Nat) : Int) = 160 := rfl
theorem ki72 : ((mw_lenI 72 : Nat) : Int) = 160 := rfl
theorem kw73 : ((mw_lenW 0 73 : Nat) : Int) = 160 := rfl
theorem ki73 : ((mw_lenI 73 : Nat) : Int) = 160 := rfl
theorem kw75 : ((mw_lenW 2 75 : Nat) : Int) = 125 := rfl
theorem kw78 : ((mw_lenW 0 78 : Nat) : Int) = 3 := rfl
theorem ki78 : ((mw_lenI 78 : Nat) : Int) = 3 := rfl
theorem kw79 : ((mw_lenW 0 79 : Nat) : Int) = 3 := rfl
theorem ki79 : ((mw_lenI 79 : Nat) : Int) = 3 := rfl
theorem kw80 : ((mw_lenW 0 80 : Nat) : Int) = 4 := rfl
theorem ki80 : ((mw_lenI 80 : Nat) : Int) = 4 := rfl
theorem kw81 : ((mw_lenW 0 81 : Nat) : Int) = 8 := rfl
theorem ki81 : ((mw_lenI 81 : Nat) : Int) = 8 := rfl
theorem kw82 : ((mw_lenW 0 82 : Nat) : Int) = 8 := rfl
theorem ki82 : ((mw_lenI 82 : Nat) : Int) = 8 := rfl
theorem kw83 : ((mw_lenW 0 83 : Nat) : Int) = 8 := rfl
theorem ki83 : ((mw_lenI 83 : Nat) : Int) = 8 := rfl
theorem kw84 : ((mw_lenW 0 84 : Nat) : Int) = 8 := rfl
theorem ki84 : ((mw_lenI 84 : Nat) : Int) = 8 := rfl
theorem kw85 : ((mw_lenW 0 85 : Nat) : Int) = 900 := rfl
theorem ki85 : ((mw_lenI 85 : Nat) : Int) = 900 := rfl
theorem kw86 : ((mw_lenW 0 86 : Nat) : Int) = 35 := rfl
theorem ki86 : ((mw_lenI 86 : Nat) : Int) = 35 := rfl
theorem kw89 : ((mw_lenW 0 89 : Nat) : Int) = 3 := rfl
theorem ki89 : ((mw_lenI 89 : Nat) : Int) = 3 := rfl
theorem kw90 : ((mw_lenW 0 90 : Nat) : Int) = 3 := rfl
theorem ki90 : ((mw_lenI 90 : Nat) : Int) = 3 := rfl
theorem kw91 : ((mw_lenW 0 91 : Nat) : Int) = 4 := rfl
theorem ki91 : ((mw_lenI 91 : Nat) : Int) = 4 := rfl
theorem kw92 : ((mw_lenW 0 92 : Nat) : Int) = 8 := rfl
theorem ki92 : ((mw_lenI 92 : Nat) : Int) = 8 := rfl
theorem kw93 : ((mw_lenW 0 93 : Nat) : Int) = 8 := rfl
theorem ki93 : ((mw_lenI 93 : Nat) : Int) = 8 := rfl
theorem kw94 : ((mw_lenW 0 94 : Nat) : Int) = 8 := rfl
theorem ki94 : ((mw_lenI 94 : Nat) : Int) = 8 := rfl
theorem kw95 : ((mw_lenW 0 95 : Nat) : Int) = 8 := rfl
theorem ki95 : ((mw_lenI 95 : Nat) : Int) = 8 := rfl
theorem kw96 : ((mw_lenW 0 96 : Nat) : Int) = 900 := rfl
theorem ki96 : ((mw_lenI 96 : Nat) : Int) = 900 := rfl
theorem kw97 : ((mw_lenW 0 97 : Nat) : Int) = 35 := rfl
theorem ki97 : ((mw_lenI 97 : Nat) : Int) = 35 := rfl
theorem kw98 : ((mw_lenW 0 98 : Nat) : Int) = 35 := rfl
theorem ki98 : ((mw_lenI 98 : Nat) : Int) = 35 := rfl
theorem kw99 : ((mw_lenW 0 99 : Nat) : Int) = 35 := rfl
theorem ki99 : ((mw_lenI 99 : Nat) : Int) = 35 := rfl
theorem kw101 : ((mw_lenW 0 101 : Nat) : Int) = 4380 := rfl
theorem ki101 : ((mw_lenI 101 : Nat) : Int) = 4380 := rfl
theorem kw102 : ((mw_lenW 1 102 : Nat) : Int) = 2 := rfl
theorem kb102 : ((mw_lenB 102 : Nat) : Int) = 2 := rfl
theorem kw103 : ((mw_lenW 0 103 : Nat) : Int) = 900 := rfl
theorem ki103 : ((mw_lenI 103 : Nat) : Int) = 900 := rfl
theorem kw104 : ((mw_lenW 0 104 : Nat) : Int) = 1460 := rfl
theorem ki104 : ((mw_lenI 104 : Nat) : Int) = 1460 := rfl
theorem kw105 : ((mw_lenW 0 105 : Nat) : Int) = 900 := rfl
theorem ki105 : ((mw_lenI 105 : Nat) : Int) = 900 := rfl
theorem kw106 : ((mw_lenW 0 106 : Nat) : Int) = 3 := rfl
theorem ki106 : ((mw_lenI 106 : Nat) : Int) = 3 := rfl
theorem kw107 : ((mw_lenW 0 107 : Nat) : Int) = 47 := rfl
theorem ki107 : ((mw_lenI 107 : Nat) : Int) = 47 := rfl
theorem kw108 : ((mw_lenW 0 108 : Nat) : Int) = 6834 := rfl
theorem ki108 : ((mw_lenI 108 : Nat) : Int) = 6834 := rfl
theorem kw109 : ((mw_lenW 0 109 : Nat) : Int) = 164500 := rfl
theorem ki109 : ((mw_lenI 109 : Nat) : Int) = 164500 := rfl
theorem kw110 : ((mw_lenW 0 110 : Nat) : Int) = 164500 := rfl
theorem ki110 : ((mw_lenI 110 : Nat) : Int) = 164500 := rfl
theorem kw111 : ((mw_lenW 0 111 : Nat) : Int) = 6580 := rfl
theorem ki111 : ((mw_lenI 111 : Nat) : Int) = 6580 := rfl
theorem kw112 : ((mw_lenW 0 112 : Nat) : Int) = 6580 := rfl
theorem ki112 : ((mw_lenI 112 : Nat) : Int) = 6580 := rfl
theorem kw113 : ((mw_lenW 0 113 : Nat) : Int) = 16384 := rfl
theorem ki113 : ((mw_lenI 113 : Nat) : Int) = 16384 := rfl
theorem kw114 : ((mw_lenW 0 114 : Nat) : Int) = 8 := rfl
theorem ki114 : ((mw_lenI 114 : Nat) : Int) = 8 := rfl
theorem kw115 : ((mw_lenW 0 115 : Nat) : Int) = 1280 := rfl
theorem ki115 : ((mw_lenI 115 : Nat) : Int) = 1280 := rfl
theorem kw116 : ((mw_lenW 0 116 : Nat) : Int) = 59049 := rfl
theorem ki116 : ((mw_lenI 116 : Nat) : Int) = 59049 := rfl
theorem kw117 : ((mw_lenW 0 117 : Nat) : Int) = 282 := rfl
theorem ki117 : ((mw_lenI 117 : Nat) : Int) = 282 := rfl
theorem kw118 : ((mw_lenW 0 118 : Nat) : Int) = 5 := rfl
theorem ki118 : ((mw_lenI 118 : Nat) : Int) = 5 := rfl
theorem kw119 : ((mw_lenW 2 119 : Nat) : Int) = 9 := rfl
theorem kw120 : ((mw_lenW 2 120 : Nat) : Int) = 9 := rfl
theorem kw121 : ((mw_lenW 0 121 : Nat) : Int) = 7625 := rfl
theorem ki121 : ((mw_lenI 121 : Nat) : Int) = 7625 := rfl
theorem kw122 : ((mw_lenW 0 122 : Nat) : Int) = 4 := rfl
theorem ki122 : ((mw_lenI 122 : Nat) : Int) = 4 := rfl
theorem kw123 : ((mw_lenW 0 123 : Nat) : Int) = 4 := rfl
theorem ki123 : ((mw_lenI 123 : Nat) : Int) = 4 := rfl
theorem kw124 : ((mw_lenW 2 124 : Nat) : Int) = 160 := rfl
theorem ki3000 : ((mw_lenI 3000 : Nat) : Int) = 6 := rfl
