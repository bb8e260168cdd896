/-! THE FROZEN HEAP behind the constructors: 195 cells, 4539 slots -/
def gKd : List (Nat × Nat) := [(5, 0), (0, 0), (10, 5), (10, 16), (10, 5), (10, 5), (10, 5), (10, 30), (10, 20), (10, 20), (10, 20), (10, 20), (3, 0), (10, 20), (10, 20), (10, 20), (10, 20), (10, 20), (10, 120), (10, 20), (10, 20), (10, 20), (10, 5), (14, 5), (4, 0), (10, 6), (10, 6), (10, 6), (10, 6), (4, 0), (10, 6), (10, 6), (10, 6), (10, 6), (4, 0), (10, 6), (10, 6), (10, 6), (10, 6), (4, 0), (10, 6), (10, 6), (10, 6), (10, 6), (4, 0), (10, 6), (10, 6), (10, 6), (10, 6), (1, 0), (13, 7), (0, 0), (10, 5), (10, 16), (10, 5), (10, 5), (10, 5), (10, 30), (10, 20), (10, 20), (10, 20), (10, 20), (0, 0), (10, 5), (10, 16), (10, 5), (10, 5), (10, 5), (10, 30), (10, 20), (10, 20), (10, 20), (10, 20), (0, 0), (10, 5), (10, 16), (10, 5), (10, 5), (10, 5), (10, 30), (10, 20), (10, 20), (10, 20), (10, 20), (0, 0), (10, 5), (10, 16), (10, 5), (10, 5), (10, 5), (10, 30), (10, 20), (10, 20), (10, 20), (10, 20), (0, 0), (10, 5), (10, 16), (10, 5), (10, 5), (10, 5), (10, 30), (10, 20), (10, 20), (10, 20), (10, 20), (0, 0), (10, 5), (10, 16), (10, 5), (10, 5), (10, 5), (10, 30), (10, 20), (10, 20), (10, 20), (10, 20), (0, 0), (10, 5), (10, 16), (10, 5), (10, 5), (10, 5), (10, 30), (10, 20), (10, 20), (10, 20), (10, 20), (2, 0), (11, 80), (10, 4), (13, 2), (12, 2), (0, 0), (10, 5), (10, 16), (10, 5), (10, 5), (10, 5), (10, 30), (10, 20), (10, 20), (10, 20), (10, 20), (4, 0), (10, 6), (10, 6), (10, 6), (10, 6), (4, 0), (10, 6), (10, 6), (10, 6), (10, 6), (0, 0), (10, 5), (10, 16), (10, 5), (10, 5), (10, 5), (10, 30), (10, 20), (10, 20), (10, 20), (10, 20), (0, 0), (10, 5), (10, 16), (10, 5), (10, 5), (10, 5), (10, 30), (10, 20), (10, 20), (10, 20), (10, 20), (6, 0), (10, 152), (10, 888), (10, 296), (12, 2), (10, 80), (10, 21), (10, 21), (10, 21), (10, 21), (10, 126), (10, 126), (10, 5), (10, 30), (10, 30), (12, 30), (10, 21), (10, 21), (10, 240)]
def gRf : List (List (Option Nat)) := [[some 1, some 12, some 49, some 128, some 131, some 132, some 133, some 144, some 149], [some 2, some 3, none, some 4, some 5, some 6, some 7, none, some 8, some 9, some 10, some 11], [], [], [], [], [], [], [], [], [], [], [some 13, some 14, some 15, some 16, some 17, some 18, some 19, some 20, some 21, some 22, some 23], [], [], [], [], [], [], [], [], [], [], [some 24, some 29, some 34, some 39, some 44], [some 25, some 26, some 27, some 28], [], [], [], [], [some 30, some 31, some 32, some 33], [], [], [], [], [some 35, some 36, some 37, some 38], [], [], [], [], [some 40, some 41, some 42, some 43], [], [], [], [], [some 45, some 46, some 47, some 48], [], [], [], [], [some 50], [some 51, some 62, some 73, some 84, some 95, some 106, some 117], [some 52, some 53, none, some 54, some 55, some 56, some 57, none, some 58, some 59, some 60, some 61], [], [], [], [], [], [], [], [], [], [], [some 63, some 64, none, some 65, some 66, some 67, some 68, none, some 69, some 70, some 71, some 72], [], [], [], [], [], [], [], [], [], [], [some 74, some 75, none, some 76, some 77, some 78, some 79, none, some 80, some 81, some 82, some 83], [], [], [], [], [], [], [], [], [], [], [some 85, some 86, none, some 87, some 88, some 89, some 90, none, some 91, some 92, some 93, some 94], [], [], [], [], [], [], [], [], [], [], [some 96, some 97, none, some 98, some 99, some 100, some 101, none, some 102, some 103, some 104, some 105], [], [], [], [], [], [], [], [], [], [], [some 107, some 108, none, some 109, some 110, some 111, some 112, none, some 113, some 114, some 115, some 116], [], [], [], [], [], [], [], [], [], [], [some 118, some 119, none, some 120, some 121, some 122, some 123, none, some 124, some 125, some 126, some 127], [], [], [], [], [], [], [], [], [], [], [some 129, some 130], [], [], [some 154, some 165], [], [some 134, some 135, none, some 136, some 137, some 138, some 139, none, some 140, some 141, some 142, some 143], [], [], [], [], [], [], [], [], [], [], [some 145, some 146, some 147, some 148], [], [], [], [], [some 150, some 151, some 152, some 153], [], [], [], [], [some 155, some 156, none, some 157, some 158, some 159, some 160, none, some 161, some 162, some 163, some 164], [], [], [], [], [], [], [], [], [], [], [some 166, some 167, none, some 168, some 169, some 170, some 171, none, some 172, some 173, some 174, some 175], [], [], [], [], [], [], [], [], [], [], [none, some 177, some 178, none, some 179, some 180, some 181, none, some 182, some 183, some 184, some 185, some 186, some 187, some 188, none, some 189, some 190, some 191, some 192, some 193, none, none, some 194], [], [], [], [], [], [], [], [], [], [], [], [], [], [], [], [], [], []]
def G0 : MG := (195, 4539, fun a => gKd.getD a (99, 0), fun a k => (gRf.getD a []).getD k none)
theorem G0_1 : G0.1 = 195 := rfl
theorem kd0 : mKd G0 0 = (5, 0) := rfl
theorem kd1 : mKd G0 1 = (0, 0) := rfl
theorem kd2 : mKd G0 2 = (10, 5) := rfl
theorem kd3 : mKd G0 3 = (10, 16) := rfl
theorem kd4 : mKd G0 4 = (10, 5) := rfl
theorem kd5 : mKd G0 5 = (10, 5) := rfl
theorem kd6 : mKd G0 6 = (10, 5) := rfl
theorem kd7 : mKd G0 7 = (10, 30) := rfl
theorem kd8 : mKd G0 8 = (10, 20) := rfl
theorem kd9 : mKd G0 9 = (10, 20) := rfl
theorem kd10 : mKd G0 10 = (10, 20) := rfl
theorem kd11 : mKd G0 11 = (10, 20) := rfl
theorem kd12 : mKd G0 12 = (3, 0) := rfl
theorem kd13 : mKd G0 13 = (10, 20) := rfl
theorem kd14 : mKd G0 14 = (10, 20) := rfl
theorem kd15 : mKd G0 15 = (10, 20) := rfl
theorem kd16 : mKd G0 16 = (10, 20) := rfl
theorem kd17 : mKd G0 17 = (10, 20) := rfl
theorem kd18 : mKd G0 18 = (10, 120) := rfl
theorem kd19 : mKd G0 19 = (10, 20) := rfl
theorem kd20 : mKd G0 20 = (10, 20) := rfl
theorem kd21 : mKd G0 21 = (10, 20) := rfl
theorem kd22 : mKd G0 22 = (10, 5) := rfl
theorem kd23 : mKd G0 23 = (14, 5) := rfl
theorem kd24 : mKd G0 24 = (4, 0) := rfl
theorem kd25 : mKd G0 25 = (10, 6) := rfl
theorem kd26 : mKd G0 26 = (10, 6) := rfl
theorem kd27 : mKd G0 27 = (10, 6) := rfl
theorem kd28 : mKd G0 28 = (10, 6) := rfl
theorem kd29 : mKd G0 29 = (4, 0) := rfl
theorem kd30 : mKd G0 30 = (10, 6) := rfl
theorem kd31 : mKd G0 31 = (10, 6) := rfl
theorem kd32 : mKd G0 32 = (10, 6) := rfl
theorem kd33 : mKd G0 33 = (10, 6) := rfl
theorem kd34 : mKd G0 34 = (4, 0) := rfl
theorem kd35 : mKd G0 35 = (10, 6) := rfl
theorem kd36 : mKd G0 36 = (10, 6) := rfl
theorem kd37 : mKd G0 37 = (10, 6) := rfl
theorem kd38 : mKd G0 38 = (10, 6) := rfl
theorem kd39 : mKd G0 39 = (4, 0) := rfl
theorem kd40 : mKd G0 40 = (10, 6) := rfl
theorem kd41 : mKd G0 41 = (10, 6) := rfl
theorem kd42 : mKd G0 42 = (10, 6) := rfl
theorem kd43 : mKd G0 43 = (10, 6) := rfl
theorem kd44 : mKd G0 44 = (4, 0) := rfl
theorem kd45 : mKd G0 45 = (10, 6) := rfl
theorem kd46 : mKd G0 46 = (10, 6) := rfl
theorem kd47 : mKd G0 47 = (10, 6) := rfl
theorem kd48 : mKd G0 48 = (10, 6) := rfl
theorem kd49 : mKd G0 49 = (1, 0) := rfl
theorem kd50 : mKd G0 50 = (13, 7) := rfl
theorem kd51 : mKd G0 51 = (0, 0) := rfl
theorem kd52 : mKd G0 52 = (10, 5) := rfl
theorem kd53 : mKd G0 53 = (10, 16) := rfl
theorem kd54 : mKd G0 54 = (10, 5) := rfl
theorem kd55 : mKd G0 55 = (10, 5) := rfl
theorem kd56 : mKd G0 56 = (10, 5) := rfl
theorem kd57 : mKd G0 57 = (10, 30) := rfl
theorem kd58 : mKd G0 58 = (10, 20) := rfl
theorem kd59 : mKd G0 59 = (10, 20) := rfl
theorem kd60 : mKd G0 60 = (10, 20) := rfl
theorem kd61 : mKd G0 61 = (10, 20) := rfl
theorem kd62 : mKd G0 62 = (0, 0) := rfl
theorem kd63 : mKd G0 63 = (10, 5) := rfl
theorem kd64 : mKd G0 64 = (10, 16) := rfl
theorem kd65 : mKd G0 65 = (10, 5) := rfl
theorem kd66 : mKd G0 66 = (10, 5) := rfl
theorem kd67 : mKd G0 67 = (10, 5) := rfl
theorem kd68 : mKd G0 68 = (10, 30) := rfl
theorem kd69 : mKd G0 69 = (10, 20) := rfl
theorem kd70 : mKd G0 70 = (10, 20) := rfl
theorem kd71 : mKd G0 71 = (10, 20) := rfl
theorem kd72 : mKd G0 72 = (10, 20) := rfl
theorem kd73 : mKd G0 73 = (0, 0) := rfl
theorem kd74 : mKd G0 74 = (10, 5) := rfl
theorem kd75 : mKd G0 75 = (10, 16) := rfl
theorem kd76 : mKd G0 76 = (10, 5) := rfl
theorem kd77 : mKd G0 77 = (10, 5) := rfl
theorem kd78 : mKd G0 78 = (10, 5) := rfl
theorem kd79 : mKd G0 79 = (10, 30) := rfl
theorem kd80 : mKd G0 80 = (10, 20) := rfl
theorem kd81 : mKd G0 81 = (10, 20) := rfl
theorem kd82 : mKd G0 82 = (10, 20) := rfl
theorem kd83 : mKd G0 83 = (10, 20) := rfl
theorem kd84 : mKd G0 84 = (0, 0) := rfl
theorem kd85 : mKd G0 85 = (10, 5) := rfl
theorem kd86 : mKd G0 86 = (10, 16) := rfl
theorem kd87 : mKd G0 87 = (10, 5) := rfl
theorem kd88 : mKd G0 88 = (10, 5) := rfl
theorem kd89 : mKd G0 89 = (10, 5) := rfl
theorem kd90 : mKd G0 90 = (10, 30) := rfl
theorem kd91 : mKd G0 91 = (10, 20) := rfl
theorem kd92 : mKd G0 92 = (10, 20) := rfl
theorem kd93 : mKd G0 93 = (10, 20) := rfl
theorem kd94 : mKd G0 94 = (10, 20) := rfl
theorem kd95 : mKd G0 95 = (0, 0) := rfl
theorem kd96 : mKd G0 96 = (10, 5) := rfl
theorem kd97 : mKd G0 97 = (10, 16) := rfl
theorem kd98 : mKd G0 98 = (10, 5) := rfl
theorem kd99 : mKd G0 99 = (10, 5) := rfl
theorem kd100 : mKd G0 100 = (10, 5) := rfl
theorem kd101 : mKd G0 101 = (10, 30) := rfl
theorem kd102 : mKd G0 102 = (10, 20) := rfl
theorem kd103 : mKd G0 103 = (10, 20) := rfl
theorem kd104 : mKd G0 104 = (10, 20) := rfl
theorem kd105 : mKd G0 105 = (10, 20) := rfl
theorem kd106 : mKd G0 106 = (0, 0) := rfl
theorem kd107 : mKd G0 107 = (10, 5) := rfl
theorem kd108 : mKd G0 108 = (10, 16) := rfl
theorem kd109 : mKd G0 109 = (10, 5) := rfl
theorem kd110 : mKd G0 110 = (10, 5) := rfl
theorem kd111 : mKd G0 111 = (10, 5) := rfl
theorem kd112 : mKd G0 112 = (10, 30) := rfl
theorem kd113 : mKd G0 113 = (10, 20) := rfl
theorem kd114 : mKd G0 114 = (10, 20) := rfl
theorem kd115 : mKd G0 115 = (10, 20) := rfl
theorem kd116 : mKd G0 116 = (10, 20) := rfl
theorem kd117 : mKd G0 117 = (0, 0) := rfl
theorem kd118 : mKd G0 118 = (10, 5) := rfl
theorem kd119 : mKd G0 119 = (10, 16) := rfl
theorem kd120 : mKd G0 120 = (10, 5) := rfl
theorem kd121 : mKd G0 121 = (10, 5) := rfl
theorem kd122 : mKd G0 122 = (10, 5) := rfl
theorem kd123 : mKd G0 123 = (10, 30) := rfl
theorem kd124 : mKd G0 124 = (10, 20) := rfl
theorem kd125 : mKd G0 125 = (10, 20) := rfl
theorem kd126 : mKd G0 126 = (10, 20) := rfl
theorem kd127 : mKd G0 127 = (10, 20) := rfl
theorem kd128 : mKd G0 128 = (2, 0) := rfl
theorem kd129 : mKd G0 129 = (11, 80) := rfl
theorem kd130 : mKd G0 130 = (10, 4) := rfl
theorem kd131 : mKd G0 131 = (13, 2) := rfl
theorem kd132 : mKd G0 132 = (12, 2) := rfl
theorem kd133 : mKd G0 133 = (0, 0) := rfl
theorem kd134 : mKd G0 134 = (10, 5) := rfl
theorem kd135 : mKd G0 135 = (10, 16) := rfl
theorem kd136 : mKd G0 136 = (10, 5) := rfl
theorem kd137 : mKd G0 137 = (10, 5) := rfl
theorem kd138 : mKd G0 138 = (10, 5) := rfl
theorem kd139 : mKd G0 139 = (10, 30) := rfl
theorem kd140 : mKd G0 140 = (10, 20) := rfl
theorem kd141 : mKd G0 141 = (10, 20) := rfl
theorem kd142 : mKd G0 142 = (10, 20) := rfl
theorem kd143 : mKd G0 143 = (10, 20) := rfl
theorem kd144 : mKd G0 144 = (4, 0) := rfl
theorem kd145 : mKd G0 145 = (10, 6) := rfl
theorem kd146 : mKd G0 146 = (10, 6) := rfl
theorem kd147 : mKd G0 147 = (10, 6) := rfl
theorem kd148 : mKd G0 148 = (10, 6) := rfl
theorem kd149 : mKd G0 149 = (4, 0) := rfl
theorem kd150 : mKd G0 150 = (10, 6) := rfl
theorem kd151 : mKd G0 151 = (10, 6) := rfl
theorem kd152 : mKd G0 152 = (10, 6) := rfl
theorem kd153 : mKd G0 153 = (10, 6) := rfl
theorem kd154 : mKd G0 154 = (0, 0) := rfl
theorem kd155 : mKd G0 155 = (10, 5) := rfl
theorem kd156 : mKd G0 156 = (10, 16) := rfl
theorem kd157 : mKd G0 157 = (10, 5) := rfl
theorem kd158 : mKd G0 158 = (10, 5) := rfl
theorem kd159 : mKd G0 159 = (10, 5) := rfl
theorem kd160 : mKd G0 160 = (10, 30) := rfl
theorem kd161 : mKd G0 161 = (10, 20) := rfl
theorem kd162 : mKd G0 162 = (10, 20) := rfl
theorem kd163 : mKd G0 163 = (10, 20) := rfl
theorem kd164 : mKd G0 164 = (10, 20) := rfl
theorem kd165 : mKd G0 165 = (0, 0) := rfl
theorem kd166 : mKd G0 166 = (10, 5) := rfl
theorem kd167 : mKd G0 167 = (10, 16) := rfl
theorem kd168 : mKd G0 168 = (10, 5) := rfl
theorem kd169 : mKd G0 169 = (10, 5) := rfl
theorem kd170 : mKd G0 170 = (10, 5) := rfl
theorem kd171 : mKd G0 171 = (10, 30) := rfl
theorem kd172 : mKd G0 172 = (10, 20) := rfl
theorem kd173 : mKd G0 173 = (10, 20) := rfl
theorem kd174 : mKd G0 174 = (10, 20) := rfl
theorem kd175 : mKd G0 175 = (10, 20) := rfl
theorem kd176 : mKd G0 176 = (6, 0) := rfl
theorem kd177 : mKd G0 177 = (10, 152) := rfl
theorem kd178 : mKd G0 178 = (10, 888) := rfl
theorem kd179 : mKd G0 179 = (10, 296) := rfl
theorem kd180 : mKd G0 180 = (12, 2) := rfl
theorem kd181 : mKd G0 181 = (10, 80) := rfl
theorem kd182 : mKd G0 182 = (10, 21) := rfl
theorem kd183 : mKd G0 183 = (10, 21) := rfl
theorem kd184 : mKd G0 184 = (10, 21) := rfl
theorem kd185 : mKd G0 185 = (10, 21) := rfl
theorem kd186 : mKd G0 186 = (10, 126) := rfl
theorem kd187 : mKd G0 187 = (10, 126) := rfl
theorem kd188 : mKd G0 188 = (10, 5) := rfl
theorem kd189 : mKd G0 189 = (10, 30) := rfl
theorem kd190 : mKd G0 190 = (10, 30) := rfl
theorem kd191 : mKd G0 191 = (12, 30) := rfl
theorem kd192 : mKd G0 192 = (10, 21) := rfl
theorem kd193 : mKd G0 193 = (10, 21) := rfl
theorem kd194 : mKd G0 194 = (10, 240) := rfl
theorem rf0_0 : mRf G0 0 0 = some 1 := rfl
theorem rf0_1 : mRf G0 0 1 = some 12 := rfl
theorem rf0_2 : mRf G0 0 2 = some 49 := rfl
theorem rf0_3 : mRf G0 0 3 = some 128 := rfl
theorem rf0_4 : mRf G0 0 4 = some 131 := rfl
theorem rf0_5 : mRf G0 0 5 = some 132 := rfl
theorem rf0_6 : mRf G0 0 6 = some 133 := rfl
theorem rf0_7 : mRf G0 0 7 = some 144 := rfl
theorem rf0_8 : mRf G0 0 8 = some 149 := rfl
theorem rf1_0 : mRf G0 1 0 = some 2 := rfl
theorem rf1_1 : mRf G0 1 1 = some 3 := rfl
theorem rf1_3 : mRf G0 1 3 = some 4 := rfl
theorem rf1_4 : mRf G0 1 4 = some 5 := rfl
theorem rf1_5 : mRf G0 1 5 = some 6 := rfl
theorem rf1_6 : mRf G0 1 6 = some 7 := rfl
theorem rf1_8 : mRf G0 1 8 = some 8 := rfl
theorem rf1_9 : mRf G0 1 9 = some 9 := rfl
theorem rf1_10 : mRf G0 1 10 = some 10 := rfl
theorem rf1_11 : mRf G0 1 11 = some 11 := rfl
theorem rf12_0 : mRf G0 12 0 = some 13 := rfl
theorem rf12_1 : mRf G0 12 1 = some 14 := rfl
theorem rf12_2 : mRf G0 12 2 = some 15 := rfl
theorem rf12_3 : mRf G0 12 3 = some 16 := rfl
theorem rf12_4 : mRf G0 12 4 = some 17 := rfl
theorem rf12_5 : mRf G0 12 5 = some 18 := rfl
theorem rf12_6 : mRf G0 12 6 = some 19 := rfl
theorem rf12_7 : mRf G0 12 7 = some 20 := rfl
theorem rf12_8 : mRf G0 12 8 = some 21 := rfl
theorem rf12_9 : mRf G0 12 9 = some 22 := rfl
theorem rf12_10 : mRf G0 12 10 = some 23 := rfl
theorem rf23_0 : mRf G0 23 0 = some 24 := rfl
theorem rf23_1 : mRf G0 23 1 = some 29 := rfl
theorem rf23_2 : mRf G0 23 2 = some 34 := rfl
theorem rf23_3 : mRf G0 23 3 = some 39 := rfl
theorem rf23_4 : mRf G0 23 4 = some 44 := rfl
theorem rf24_0 : mRf G0 24 0 = some 25 := rfl
theorem rf24_1 : mRf G0 24 1 = some 26 := rfl
theorem rf24_2 : mRf G0 24 2 = some 27 := rfl
theorem rf24_3 : mRf G0 24 3 = some 28 := rfl
theorem rf29_0 : mRf G0 29 0 = some 30 := rfl
theorem rf29_1 : mRf G0 29 1 = some 31 := rfl
theorem rf29_2 : mRf G0 29 2 = some 32 := rfl
theorem rf29_3 : mRf G0 29 3 = some 33 := rfl
theorem rf34_0 : mRf G0 34 0 = some 35 := rfl
theorem rf34_1 : mRf G0 34 1 = some 36 := rfl
theorem rf34_2 : mRf G0 34 2 = some 37 := rfl
theorem rf34_3 : mRf G0 34 3 = some 38 := rfl
theorem rf39_0 : mRf G0 39 0 = some 40 := rfl
theorem rf39_1 : mRf G0 39 1 = some 41 := rfl
theorem rf39_2 : mRf G0 39 2 = some 42 := rfl
theorem rf39_3 : mRf G0 39 3 = some 43 := rfl
theorem rf44_0 : mRf G0 44 0 = some 45 := rfl
theorem rf44_1 : mRf G0 44 1 = some 46 := rfl
theorem rf44_2 : mRf G0 44 2 = some 47 := rfl
theorem rf44_3 : mRf G0 44 3 = some 48 := rfl
theorem rf49_0 : mRf G0 49 0 = some 50 := rfl
theorem rf50_0 : mRf G0 50 0 = some 51 := rfl
theorem rf50_1 : mRf G0 50 1 = some 62 := rfl
theorem rf50_2 : mRf G0 50 2 = some 73 := rfl
theorem rf50_3 : mRf G0 50 3 = some 84 := rfl
theorem rf50_4 : mRf G0 50 4 = some 95 := rfl
theorem rf50_5 : mRf G0 50 5 = some 106 := rfl
theorem rf50_6 : mRf G0 50 6 = some 117 := rfl
theorem rf51_0 : mRf G0 51 0 = some 52 := rfl
theorem rf51_1 : mRf G0 51 1 = some 53 := rfl
theorem rf51_3 : mRf G0 51 3 = some 54 := rfl
theorem rf51_4 : mRf G0 51 4 = some 55 := rfl
theorem rf51_5 : mRf G0 51 5 = some 56 := rfl
theorem rf51_6 : mRf G0 51 6 = some 57 := rfl
theorem rf51_8 : mRf G0 51 8 = some 58 := rfl
theorem rf51_9 : mRf G0 51 9 = some 59 := rfl
theorem rf51_10 : mRf G0 51 10 = some 60 := rfl
theorem rf51_11 : mRf G0 51 11 = some 61 := rfl
theorem rf62_0 : mRf G0 62 0 = some 63 := rfl
theorem rf62_1 : mRf G0 62 1 = some 64 := rfl
theorem rf62_3 : mRf G0 62 3 = some 65 := rfl
theorem rf62_4 : mRf G0 62 4 = some 66 := rfl
theorem rf62_5 : mRf G0 62 5 = some 67 := rfl
theorem rf62_6 : mRf G0 62 6 = some 68 := rfl
theorem rf62_8 : mRf G0 62 8 = some 69 := rfl
theorem rf62_9 : mRf G0 62 9 = some 70 := rfl
theorem rf62_10 : mRf G0 62 10 = some 71 := rfl
theorem rf62_11 : mRf G0 62 11 = some 72 := rfl
theorem rf73_0 : mRf G0 73 0 = some 74 := rfl
theorem rf73_1 : mRf G0 73 1 = some 75 := rfl
theorem rf73_3 : mRf G0 73 3 = some 76 := rfl
theorem rf73_4 : mRf G0 73 4 = some 77 := rfl
theorem rf73_5 : mRf G0 73 5 = some 78 := rfl
theorem rf73_6 : mRf G0 73 6 = some 79 := rfl
theorem rf73_8 : mRf G0 73 8 = some 80 := rfl
theorem rf73_9 : mRf G0 73 9 = some 81 := rfl
theorem rf73_10 : mRf G0 73 10 = some 82 := rfl
theorem rf73_11 : mRf G0 73 11 = some 83 := rfl
theorem rf84_0 : mRf G0 84 0 = some 85 := rfl
theorem rf84_1 : mRf G0 84 1 = some 86 := rfl
theorem rf84_3 : mRf G0 84 3 = some 87 := rfl
theorem rf84_4 : mRf G0 84 4 = some 88 := rfl
theorem rf84_5 : mRf G0 84 5 = some 89 := rfl
theorem rf84_6 : mRf G0 84 6 = some 90 := rfl
theorem rf84_8 : mRf G0 84 8 = some 91 := rfl
theorem rf84_9 : mRf G0 84 9 = some 92 := rfl
theorem rf84_10 : mRf G0 84 10 = some 93 := rfl
theorem rf84_11 : mRf G0 84 11 = some 94 := rfl
theorem rf95_0 : mRf G0 95 0 = some 96 := rfl
theorem rf95_1 : mRf G0 95 1 = some 97 := rfl
theorem rf95_3 : mRf G0 95 3 = some 98 := rfl
theorem rf95_4 : mRf G0 95 4 = some 99 := rfl
theorem rf95_5 : mRf G0 95 5 = some 100 := rfl
theorem rf95_6 : mRf G0 95 6 = some 101 := rfl
theorem rf95_8 : mRf G0 95 8 = some 102 := rfl
theorem rf95_9 : mRf G0 95 9 = some 103 := rfl
theorem rf95_10 : mRf G0 95 10 = some 104 := rfl
theorem rf95_11 : mRf G0 95 11 = some 105 := rfl
theorem rf106_0 : mRf G0 106 0 = some 107 := rfl
theorem rf106_1 : mRf G0 106 1 = some 108 := rfl
theorem rf106_3 : mRf G0 106 3 = some 109 := rfl
theorem rf106_4 : mRf G0 106 4 = some 110 := rfl
theorem rf106_5 : mRf G0 106 5 = some 111 := rfl
theorem rf106_6 : mRf G0 106 6 = some 112 := rfl
theorem rf106_8 : mRf G0 106 8 = some 113 := rfl
theorem rf106_9 : mRf G0 106 9 = some 114 := rfl
theorem rf106_10 : mRf G0 106 10 = some 115 := rfl
theorem rf106_11 : mRf G0 106 11 = some 116 := rfl
theorem rf117_0 : mRf G0 117 0 = some 118 := rfl
theorem rf117_1 : mRf G0 117 1 = some 119 := rfl
theorem rf117_3 : mRf G0 117 3 = some 120 := rfl
theorem rf117_4 : mRf G0 117 4 = some 121 := rfl
theorem rf117_5 : mRf G0 117 5 = some 122 := rfl
theorem rf117_6 : mRf G0 117 6 = some 123 := rfl
theorem rf117_8 : mRf G0 117 8 = some 124 := rfl
theorem rf117_9 : mRf G0 117 9 = some 125 := rfl
theorem rf117_10 : mRf G0 117 10 = some 126 := rfl
theorem rf117_11 : mRf G0 117 11 = some 127 := rfl
theorem rf128_0 : mRf G0 128 0 = some 129 := rfl
theorem rf128_1 : mRf G0 128 1 = some 130 := rfl
theorem rf131_0 : mRf G0 131 0 = some 154 := rfl
theorem rf131_1 : mRf G0 131 1 = some 165 := rfl
theorem rf133_0 : mRf G0 133 0 = some 134 := rfl
theorem rf133_1 : mRf G0 133 1 = some 135 := rfl
theorem rf133_3 : mRf G0 133 3 = some 136 := rfl
theorem rf133_4 : mRf G0 133 4 = some 137 := rfl
theorem rf133_5 : mRf G0 133 5 = some 138 := rfl
theorem rf133_6 : mRf G0 133 6 = some 139 := rfl
theorem rf133_8 : mRf G0 133 8 = some 140 := rfl
theorem rf133_9 : mRf G0 133 9 = some 141 := rfl
theorem rf133_10 : mRf G0 133 10 = some 142 := rfl
theorem rf133_11 : mRf G0 133 11 = some 143 := rfl
theorem rf144_0 : mRf G0 144 0 = some 145 := rfl
theorem rf144_1 : mRf G0 144 1 = some 146 := rfl
theorem rf144_2 : mRf G0 144 2 = some 147 := rfl
theorem rf144_3 : mRf G0 144 3 = some 148 := rfl
theorem rf149_0 : mRf G0 149 0 = some 150 := rfl
theorem rf149_1 : mRf G0 149 1 = some 151 := rfl
theorem rf149_2 : mRf G0 149 2 = some 152 := rfl
theorem rf149_3 : mRf G0 149 3 = some 153 := rfl
theorem rf154_0 : mRf G0 154 0 = some 155 := rfl
theorem rf154_1 : mRf G0 154 1 = some 156 := rfl
theorem rf154_3 : mRf G0 154 3 = some 157 := rfl
theorem rf154_4 : mRf G0 154 4 = some 158 := rfl
theorem rf154_5 : mRf G0 154 5 = some 159 := rfl
theorem rf154_6 : mRf G0 154 6 = some 160 := rfl
theorem rf154_8 : mRf G0 154 8 = some 161 := rfl
theorem rf154_9 : mRf G0 154 9 = some 162 := rfl
theorem rf154_10 : mRf G0 154 10 = some 163 := rfl
theorem rf154_11 : mRf G0 154 11 = some 164 := rfl
theorem rf165_0 : mRf G0 165 0 = some 166 := rfl
theorem rf165_1 : mRf G0 165 1 = some 167 := rfl
theorem rf165_3 : mRf G0 165 3 = some 168 := rfl
theorem rf165_4 : mRf G0 165 4 = some 169 := rfl
theorem rf165_5 : mRf G0 165 5 = some 170 := rfl
theorem rf165_6 : mRf G0 165 6 = some 171 := rfl
theorem rf165_8 : mRf G0 165 8 = some 172 := rfl
theorem rf165_9 : mRf G0 165 9 = some 173 := rfl
theorem rf165_10 : mRf G0 165 10 = some 174 := rfl
theorem rf165_11 : mRf G0 165 11 = some 175 := rfl
theorem rf176_1 : mRf G0 176 1 = some 177 := rfl
theorem rf176_2 : mRf G0 176 2 = some 178 := rfl
theorem rf176_4 : mRf G0 176 4 = some 179 := rfl
theorem rf176_5 : mRf G0 176 5 = some 180 := rfl
theorem rf176_6 : mRf G0 176 6 = some 181 := rfl
theorem rf176_8 : mRf G0 176 8 = some 182 := rfl
theorem rf176_9 : mRf G0 176 9 = some 183 := rfl
theorem rf176_10 : mRf G0 176 10 = some 184 := rfl
theorem rf176_11 : mRf G0 176 11 = some 185 := rfl
theorem rf176_12 : mRf G0 176 12 = some 186 := rfl
theorem rf176_13 : mRf G0 176 13 = some 187 := rfl
theorem rf176_14 : mRf G0 176 14 = some 188 := rfl
theorem rf176_16 : mRf G0 176 16 = some 189 := rfl
theorem rf176_17 : mRf G0 176 17 = some 190 := rfl
theorem rf176_18 : mRf G0 176 18 = some 191 := rfl
theorem rf176_19 : mRf G0 176 19 = some 192 := rfl
theorem rf176_20 : mRf G0 176 20 = some 193 := rfl
theorem rf176_23 : mRf G0 176 23 = some 194 := rfl
def gCs : List Nat := [1, 51, 62, 73, 84, 95, 106, 117, 133, 154, 165]
def gRs : List Nat := [24, 29, 34, 39, 44, 144, 149]
theorem gC_ok : ∀ c ∈ gCs, mKd G0 c = (0, 0) ∧ mRf G0 c 0 = some (c + 1) ∧ mKd G0 (c + 1) = (10, 5) ∧ mRf G0 c 1 = some (c + 2) ∧ mKd G0 (c + 2) = (10, 16) ∧ mRf G0 c 3 = some (c + 3) ∧ mKd G0 (c + 3) = (10, 5) ∧ mRf G0 c 4 = some (c + 4) ∧ mKd G0 (c + 4) = (10, 5) ∧ mRf G0 c 5 = some (c + 5) ∧ mKd G0 (c + 5) = (10, 5) ∧ mRf G0 c 6 = some (c + 6) ∧ mKd G0 (c + 6) = (10, 30) ∧ mRf G0 c 8 = some (c + 7) ∧ mKd G0 (c + 7) = (10, 20) ∧ mRf G0 c 9 = some (c + 8) ∧ mKd G0 (c + 8) = (10, 20) ∧ mRf G0 c 10 = some (c + 9) ∧ mKd G0 (c + 9) = (10, 20) ∧ mRf G0 c 11 = some (c + 10) ∧ mKd G0 (c + 10) = (10, 20) := by decide +kernel
theorem gR_ok : ∀ c ∈ gRs, mKd G0 c = (4, 0) ∧ mRf G0 c 0 = some (c + 1) ∧ mKd G0 (c + 1) = (10, 6) ∧ mRf G0 c 1 = some (c + 2) ∧ mKd G0 (c + 2) = (10, 6) ∧ mRf G0 c 2 = some (c + 3) ∧ mKd G0 (c + 3) = (10, 6) ∧ mRf G0 c 3 = some (c + 4) ∧ mKd G0 (c + 4) = (10, 6) := by decide +kernel
theorem gCR : ∀ c ∈ gCs, ∀ b ∈ gRs, c + 10 < b ∨ b + 4 < c := by decide
theorem gCC : ∀ c ∈ gCs, ∀ b ∈ gCs, c = b ∨ c + 10 < b ∨ b + 10 < c := by decide
theorem gRR : ∀ c ∈ gRs, ∀ b ∈ gRs, c = b ∨ c + 4 < b ∨ b + 4 < c := by decide
theorem gC_lt : ∀ c ∈ gCs, 0 < c ∧ c + 10 < 176 := by decide
theorem gR_lt : ∀ c ∈ gRs, 0 < c ∧ c + 4 < 176 := by decide
