set_option maxRecDepth 100000 in
theorem am_q1 : am_chkR am_r1 = true := by decide +kernel
set_option maxRecDepth 100000 in
theorem am_q2 : am_chkR am_r2 = true := by decide +kernel
set_option maxRecDepth 100000 in
theorem am_q3 : am_chkR am_r3 = true := by decide +kernel
set_option maxRecDepth 100000 in
theorem am_q4 : am_chkR am_r4 = true := by decide +kernel
set_option maxRecDepth 100000 in
theorem am_q5 : am_chkR am_r5 = true := by decide +kernel
set_option maxRecDepth 100000 in
theorem am_q6 : am_chkR am_r6 = true := by decide +kernel
set_option maxRecDepth 100000 in
theorem am_q7 : am_chkR am_r7 = true := by decide +kernel
set_option maxRecDepth 100000 in
theorem am_q8 : am_chkR am_r8 = true := by decide +kernel
set_option maxRecDepth 100000 in
theorem am_q9 : am_chkR am_r9 = true := by decide +kernel
set_option maxRecDepth 100000 in
theorem am_q10 : am_chkR am_r10 = true := by decide +kernel
set_option maxRecDepth 100000 in
theorem am_q11 : am_chkR am_r11 = true := by decide +kernel
set_option maxRecDepth 100000 in
theorem am_q12 : am_chkR am_r12 = true := by decide +kernel
set_option maxRecDepth 100000 in
theorem am_q13 : am_chkR am_r13 = true := by decide +kernel
set_option maxRecDepth 100000 in
theorem am_q14 : am_chkR am_r14 = true := by decide +kernel
set_option maxRecDepth 100000 in
theorem am_q15 : am_chkR am_r15 = true := by decide +kernel
set_option maxRecDepth 100000 in
theorem am_q16 : am_chkR am_r16 = true := by decide +kernel
set_option maxRecDepth 100000 in
theorem am_q17 : am_chkR am_r17 = true := by decide +kernel
set_option maxRecDepth 100000 in
theorem am_q18 : am_chkR am_r18 = true := by decide +kernel
set_option maxRecDepth 100000 in
theorem am_q19 : am_chkR am_r19 = true := by decide +kernel
set_option maxRecDepth 100000 in
theorem am_q20 : am_chkR am_r20 = true := by decide +kernel
set_option maxRecDepth 100000 in
theorem am_q21 : am_chkR am_r21 = true := by decide +kernel
set_option maxRecDepth 100000 in
theorem am_q22 : am_chkR am_r22 = true := by decide +kernel
set_option maxRecDepth 100000 in
theorem am_q23 : am_chkR am_r23 = true := by decide +kernel
set_option maxRecDepth 100000 in
theorem am_q24 : am_chkR am_r24 = true := by decide +kernel
set_option maxRecDepth 100000 in
theorem am_q25 : am_chkR am_r25 = true := by decide +kernel
set_option maxRecDepth 100000 in
theorem am_q26 : am_chkR am_r26 = true := by decide +kernel
set_option maxRecDepth 100000 in
theorem am_q27 : am_chkR am_r27 = true := by decide +kernel
set_option maxRecDepth 100000 in
theorem am_q28 : am_chkR am_r28 = true := by decide +kernel
set_option maxRecDepth 100000 in
theorem am_q29 : am_chkR am_r29 = true := by decide +kernel
set_option maxRecDepth 100000 in
theorem am_q30 : am_chkR am_r30 = true := by decide +kernel
set_option maxRecDepth 100000 in
theorem am_q31 : am_chkR am_r31 = true := by decide +kernel
set_option maxRecDepth 100000 in
theorem am_q32 : am_chkR am_r32 = true := by decide +kernel
set_option maxRecDepth 100000 in
theorem am_q33 : am_chkR am_r33 = true := by decide +kernel
set_option maxRecDepth 100000 in
theorem am_q34 : am_chkR am_r34 = true := by decide +kernel
set_option maxRecDepth 100000 in
theorem am_q35 : am_chkR am_r35 = true := by decide +kernel
set_option maxRecDepth 100000 in
theorem am_q36 : am_chkR am_r36 = true := by decide +kernel
set_option maxRecDepth 100000 in
theorem am_q37 : am_chkR am_r37 = true := by decide +kernel
set_option maxRecDepth 100000 in
theorem am_q38 : am_chkR am_r38 = true := by decide +kernel
set_option maxRecDepth 100000 in
theorem am_q39 : am_chkR am_r39 = true := by decide +kernel
set_option maxRecDepth 100000 in
theorem am_q40 : am_chkR am_r40 = true := by decide +kernel
set_option maxRecDepth 100000 in
theorem am_q41 : am_chkR am_r41 = true := by decide +kernel
set_option maxRecDepth 100000 in
theorem am_q42 : am_chkR am_r42 = true := by decide +kernel
set_option maxRecDepth 100000 in
theorem am_q43 : am_chkR am_r43 = true := by decide +kernel
set_option maxRecDepth 100000 in
theorem am_q44 : am_chkR am_r44 = true := by decide +kernel
set_option maxRecDepth 100000 in
theorem am_q45 : am_chkR am_r45 = true := by decide +kernel
set_option maxRecDepth 100000 in
theorem am_q46 : am_chkR am_r46 = true := by decide +kernel
set_option maxRecDepth 100000 in
theorem am_q47 : am_chkR am_r47 = true := by decide +kernel
set_option maxRecDepth 100000 in
theorem am_q48 : am_chkR am_r48 = true := by decide +kernel
set_option maxRecDepth 100000 in
theorem am_q49 : am_chkR am_r49 = true := by decide +kernel
set_option maxRecDepth 100000 in
theorem am_q50 : am_chkR am_r50 = true := by decide +kernel
set_option maxRecDepth 100000 in
theorem am_q51 : am_chkR am_r51 = true := by decide +kernel
set_option maxRecDepth 100000 in
theorem am_q52 : am_chkR am_r52 = true := by decide +kernel
set_option maxRecDepth 100000 in
theorem am_q53 : am_chkR am_r53 = true := by decide +kernel
set_option maxRecDepth 100000 in
theorem am_q54 : am_chkR am_r54 = true := by decide +kernel
set_option maxRecDepth 100000 in
theorem am_q55 : am_chkR am_r55 = true := by decide +kernel
set_option maxRecDepth 100000 in
theorem am_q56 : am_chkR am_r56 = true := by decide +kernel
set_option maxRecDepth 100000 in
theorem am_q57 : am_chkR am_r57 = true := by decide +kernel
set_option maxRecDepth 100000 in
theorem am_q58 : am_chkR am_r58 = true := by decide +kernel
set_option maxRecDepth 100000 in
theorem am_q59 : am_chkR am_r59 = true := by decide +kernel
set_option maxRecDepth 100000 in
theorem am_q60 : am_chkR am_r60 = true := by decide +kernel
set_option maxRecDepth 100000 in
theorem am_q61 : am_chkR am_r61 = true := by decide +kernel
set_option maxRecDepth 100000 in
theorem am_q62 : am_chkR am_r62 = true := by decide +kernel
set_option maxRecDepth 100000 in
theorem am_q63 : am_chkR am_r63 = true := by decide +kernel
set_option maxRecDepth 100000 in
theorem am_q64 : am_chkR am_r64 = true := by decide +kernel
set_option maxRecDepth 100000 in
theorem am_q65 : am_chkR am_r65 = true := by decide +kernel
set_option maxRecDepth 100000 in
theorem am_q66 : am_chkR am_r66 = true := by decide +kernel
set_option maxRecDepth 100000 in
theorem am_q67 : am_chkR am_r67 = true := by decide +kernel
set_option maxRecDepth 100000 in
theorem am_q68 : am_chkR am_r68 = true := by decide +kernel
set_option maxRecDepth 100000 in
theorem am_q69 : am_chkR am_r69 = true := by decide +kernel
set_option maxRecDepth 100000 in
theorem am_q70 : am_chkR am_r70 = true := by decide +kernel
set_option maxRecDepth 100000 in
theorem am_q71 : am_chkR am_r71 = true := by decide +kernel
set_option maxRecDepth 100000 in
theorem am_q72 : am_chkR am_r72 = true := by decide +kernel
set_option maxRecDepth 100000 in
theorem am_q73 : am_chkR am_r73 = true := by decide +kernel
set_option maxRecDepth 100000 in
theorem am_q74 : am_chkR am_r74 = true := by decide +kernel
set_option maxRecDepth 100000 in
theorem am_q75 : am_chkR am_r75 = true := by decide +kernel
set_option maxRecDepth 100000 in
theorem am_q76 : am_chkR am_r76 = true := by decide +kernel
set_option maxRecDepth 100000 in
theorem am_q77 : am_chkR am_r77 = true := by decide +kernel
set_option maxRecDepth 100000 in
theorem am_q78 : am_chkR am_r78 = true := by decide +kernel
set_option maxRecDepth 100000 in
theorem am_q79 : am_chkR am_r79 = true := by decide +kernel
set_option maxRecDepth 100000 in
theorem am_q80 : am_chkR am_r80 = true := by decide +kernel
set_option maxRecDepth 100000 in
theorem am_q81 : am_chkR am_r81 = true := by decide +kernel
set_option maxRecDepth 100000 in
theorem am_q82 : am_chkR am_r82 = true := by decide +kernel
set_option maxRecDepth 100000 in
theorem am_q83 : am_chkR am_r83 = true := by decide +kernel
set_option maxRecDepth 100000 in
theorem am_q84 : am_chkR am_r84 = true := by decide +kernel
set_option maxRecDepth 100000 in
theorem am_q85 : am_chkR am_r85 = true := by decide +kernel
set_option maxRecDepth 100000 in
theorem am_q86 : am_chkR am_r86 = true := by decide +kernel
set_option maxRecDepth 100000 in
theorem am_q87 : am_chkR am_r87 = true := by decide +kernel
set_option maxRecDepth 100000 in
theorem am_q88 : am_chkR am_r88 = true := by decide +kernel
set_option maxRecDepth 100000 in
theorem am_q89 : am_chkR am_r89 = true := by decide +kernel
set_option maxRecDepth 100000 in
theorem am_q90 : am_chkR am_r90 = true := by decide +kernel
set_option maxRecDepth 100000 in
theorem am_q91 : am_chkR am_r91 = true := by decide +kernel
set_option maxRecDepth 100000 in
theorem am_q92 : am_chkR am_r92 = true := by decide +kernel
set_option maxRecDepth 100000 in
theorem am_q93 : am_chkR am_r93 = true := by decide +kernel
set_option maxRecDepth 100000 in
theorem am_q94 : am_chkR am_r94 = true := by decide +kernel
set_option maxRecDepth 100000 in
theorem am_q95 : am_chkR am_r95 = true := by decide +kernel
set_option maxRecDepth 100000 in
theorem am_q96 : am_chkR am_r96 = true := by decide +kernel
set_option maxRecDepth 100000 in
theorem am_q97 : am_chkR am_r97 = true := by decide +kernel
set_option maxRecDepth 100000 in
theorem am_q98 : am_chkR am_r98 = true := by decide +kernel
set_option maxRecDepth 100000 in
theorem am_q99 : am_chkR am_r99 = true := by decide +kernel
set_option maxRecDepth 100000 in
theorem am_q100 : am_chkR am_r100 = true := by decide +kernel
set_option maxRecDepth 100000 in
theorem am_q101 : am_chkR am_r101 = true := by decide +kernel
set_option maxRecDepth 100000 in
theorem am_q102 : am_chkR am_r102 = true := by decide +kernel
set_option maxRecDepth 100000 in
theorem am_q103 : am_chkR am_r103 = true := by decide +kernel
set_option maxRecDepth 100000 in
theorem am_q104 : am_chkR am_r104 = true := by decide +kernel
set_option maxRecDepth 100000 in
theorem am_q105 : am_chkR am_r105 = true := by decide +kernel
set_option maxRecDepth 100000 in
theorem am_q106 : am_chkR am_r106 = true := by decide +kernel
set_option maxRecDepth 100000 in
theorem am_q107 : am_chkR am_r107 = true := by decide +kernel
set_option maxRecDepth 100000 in
theorem am_q108 : am_chkR am_r108 = true := by decide +kernel
set_option maxRecDepth 100000 in
theorem am_q109 : am_chkR am_r109 = true := by decide +kernel
set_option maxRecDepth 100000 in
theorem am_q110 : am_chkR am_r110 = true := by decide +kernel
set_option maxRecDepth 100000 in
theorem am_q111 : am_chkR am_r111 = true := by decide +kernel
set_option maxRecDepth 100000 in
theorem am_q112 : am_chkR am_r112 = true := by decide +kernel
set_option maxRecDepth 100000 in
theorem am_q113 : am_chkR am_r113 = true := by decide +kernel
set_option maxRecDepth 100000 in
theorem am_q114 : am_chkR am_r114 = true := by decide +kernel
set_option maxRecDepth 100000 in
theorem am_q115 : am_chkR am_r115 = true := by decide +kernel
set_option maxRecDepth 100000 in
theorem am_q116 : am_chkR am_r116 = true := by decide +kernel
set_option maxRecDepth 100000 in
theorem am_q117 : am_chkR am_r117 = true := by decide +kernel
set_option maxRecDepth 100000 in
theorem am_q118 : am_chkR am_r118 = true := by decide +kernel
set_option maxRecDepth 100000 in
theorem am_q119 : am_chkR am_r119 = true := by decide +kernel
set_option maxRecDepth 100000 in
theorem am_q120 : am_chkR am_r120 = true := by decide +kernel
set_option maxRecDepth 100000 in
theorem am_q121 : am_chkR am_r121 = true := by decide +kernel
set_option maxRecDepth 100000 in
theorem am_q122 : am_chkR am_r122 = true := by decide +kernel
set_option maxRecDepth 100000 in
theorem am_q123 : am_chkR am_r123 = true := by decide +kernel
set_option maxRecDepth 100000 in
theorem am_q124 : am_chkR am_r124 = true := by decide +kernel
set_option maxRecDepth 100000 in
theorem am_q125 : am_chkR am_r125 = true := by decide +kernel
set_option maxRecDepth 100000 in
theorem am_q126 : am_chkR am_r126 = true := by decide +kernel
set_option maxRecDepth 100000 in
theorem am_q127 : am_chkR am_r127 = true := by decide +kernel
set_option maxRecDepth 100000 in
theorem am_q128 : am_chkR am_r128 = true := by decide +kernel
set_option maxRecDepth 100000 in
theorem am_q129 : am_chkR am_r129 = true := by decide +kernel
set_option maxRecDepth 100000 in
theorem am_q130 : am_chkR am_r130 = true := by decide +kernel
set_option maxRecDepth 100000 in
theorem am_q131 : am_chkR am_r131 = true := by decide +kernel
set_option maxRecDepth 100000 in
theorem am_q132 : am_chkR am_r132 = true := by decide +kernel
set_option maxRecDepth 100000 in
theorem am_q133 : am_chkR am_r133 = true := by decide +kernel
set_option maxRecDepth 100000 in
theorem am_q134 : am_chkR am_r134 = true := by decide +kernel
set_option maxRecDepth 100000 in
theorem am_q135 : am_chkR am_r135 = true := by decide +kernel
set_option maxRecDepth 100000 in
theorem am_q136 : am_chkR am_r136 = true := by decide +kernel
set_option maxRecDepth 100000 in
theorem am_q137 : am_chkR am_r137 = true := by decide +kernel
set_option maxRecDepth 100000 in
theorem am_q138 : am_chkR am_r138 = true := by decide +kernel
set_option maxRecDepth 100000 in
theorem am_q139 : am_chkR am_r139 = true := by decide +kernel
set_option maxRecDepth 100000 in
theorem am_q140 : am_chkR am_r140 = true := by decide +kernel
set_option maxRecDepth 100000 in
theorem am_q141 : am_chkR am_r141 = true := by decide +kernel
set_option maxRecDepth 100000 in
theorem am_q142 : am_chkR am_r142 = true := by decide +kernel
set_option maxRecDepth 100000 in
theorem am_q143 : am_chkR am_r143 = true := by decide +kernel
set_option maxRecDepth 100000 in
theorem am_q144 : am_chkR am_r144 = true := by decide +kernel
set_option maxRecDepth 100000 in
theorem am_q145 : am_chkR am_r145 = true := by decide +kernel
set_option maxRecDepth 100000 in
theorem am_q146 : am_chkR am_r146 = true := by decide +kernel
set_option maxRecDepth 100000 in
theorem am_q147 : am_chkR am_r147 = true := by decide +kernel
set_option maxRecDepth 100000 in
theorem am_q148 : am_chkR am_r148 = true := by decide +kernel
set_option maxRecDepth 100000 in
theorem am_q149 : am_chkR am_r149 = true := by decide +kernel
set_option maxRecDepth 100000 in
theorem am_q150 : am_chkR am_r150 = true := by decide +kernel
set_option maxRecDepth 100000 in
theorem am_q151 : am_chkR am_r151 = true := by decide +kernel
set_option maxRecDepth 100000 in
theorem am_q152 : am_chkR am_r152 = true := by decide +kernel
set_option maxRecDepth 100000 in
theorem am_q153 : am_chkR am_r153 = true := by decide +kernel
set_option maxRecDepth 100000 in
theorem am_q154 : am_chkR am_r154 = true := by decide +kernel
set_option maxRecDepth 100000 in
theorem am_q155 : am_chkR am_r155 = true := by decide +kernel
set_option maxRecDepth 100000 in
theorem am_q156 : am_chkR am_r156 = true := by decide +kernel
set_option maxRecDepth 100000 in
theorem am_q157 : am_chkR am_r157 = true := by decide +kernel
set_option maxRecDepth 100000 in
theorem am_q158 : am_chkR am_r158 = true := by decide +kernel
set_option maxRecDepth 100000 in
theorem am_q159 : am_chkR am_r159 = true := by decide +kernel
set_option maxRecDepth 100000 in
theorem am_q160 : am_chkR am_r160 = true := by decide +kernel
set_option maxRecDepth 100000 in
theorem am_q161 : am_chkR am_r161 = true := by decide +kernel
set_option maxRecDepth 100000 in
theorem am_q162 : am_chkR am_r162 = true := by decide +kernel
set_option maxRecDepth 100000 in
theorem am_q163 : am_chkR am_r163 = true := by decide +kernel
set_option maxRecDepth 100000 in
theorem am_q164 : am_chkR am_r164 = true := by decide +kernel
set_option maxRecDepth 100000 in
theorem am_q165 : am_chkR am_r165 = true := by decide +kernel
set_option maxRecDepth 100000 in
theorem am_q166 : am_chkR am_r166 = true := by decide +kernel
set_option maxRecDepth 100000 in
theorem am_q167 : am_chkR am_r167 = true := by decide +kernel
set_option maxRecDepth 100000 in
theorem am_q168 : am_chkR am_r168 = true := by decide +kernel
set_option maxRecDepth 100000 in
theorem am_q169 : am_chkR am_r169 = true := by decide +kernel
set_option maxRecDepth 100000 in
theorem am_q170 : am_chkR am_r170 = true := by decide +kernel
set_option maxRecDepth 100000 in
theorem am_q171 : am_chkR am_r171 = true := by decide +kernel
set_option maxRecDepth 100000 in
theorem am_q172 : am_chkR am_r172 = true := by decide +kernel
set_option maxRecDepth 100000 in
theorem am_q173 : am_chkR am_r173 = true := by decide +kernel
set_option maxRecDepth 100000 in
theorem am_q174 : am_chkR am_r174 = true := by decide +kernel
set_option maxRecDepth 100000 in
theorem am_q175 : am_chkR am_r175 = true := by decide +kernel
set_option maxRecDepth 100000 in
theorem am_q176 : am_chkR am_r176 = true := by decide +kernel
set_option maxRecDepth 100000 in
theorem am_q177 : am_chkR am_r177 = true := by decide +kernel
set_option maxRecDepth 100000 in
theorem am_q178 : am_chkR am_r178 = true := by decide +kernel
set_option maxRecDepth 100000 in
theorem am_q179 : am_chkR am_r179 = true := by decide +kernel
set_option maxRecDepth 100000 in
theorem am_q180 : am_chkR am_r180 = true := by decide +kernel
set_option maxRecDepth 100000 in
theorem am_q181 : am_chkR am_r181 = true := by decide +kernel
set_option maxRecDepth 100000 in
theorem am_q182 : am_chkR am_r182 = true := by decide +kernel
set_option maxRecDepth 100000 in
theorem am_q183 : am_chkR am_r183 = true := by decide +kernel
set_option maxRecDepth 100000 in
theorem am_q184 : am_chkR am_r184 = true := by decide +kernel
set_option maxRecDepth 100000 in
theorem am_q185 : am_chkR am_r185 = true := by decide +kernel
set_option maxRecDepth 100000 in
theorem am_q186 : am_chkR am_r186 = true := by decide +kernel
set_option maxRecDepth 100000 in
theorem am_q187 : am_chkR am_r187 = true := by decide +kernel
set_option maxRecDepth 100000 in
theorem am_q188 : am_chkR am_r188 = true := by decide +kernel
set_option maxRecDepth 100000 in
theorem am_q189 : am_chkR am_r189 = true := by decide +kernel
set_option maxRecDepth 100000 in
theorem am_q190 : am_chkR am_r190 = true := by decide +kernel
set_option maxRecDepth 100000 in
theorem am_q191 : am_chkR am_r191 = true := by decide +kernel
set_option maxRecDepth 100000 in
theorem am_q192 : am_chkR am_r192 = true := by decide +kernel
set_option maxRecDepth 100000 in
theorem am_q193 : am_chkR am_r193 = true := by decide +kernel
set_option maxRecDepth 100000 in
theorem am_q194 : am_chkR am_r194 = true := by decide +kernel
set_option maxRecDepth 100000 in
theorem am_q195 : am_chkR am_r195 = true := by decide +kernel
set_option maxRecDepth 100000 in
theorem am_q196 : am_chkR am_r196 = true := by decide +kernel
set_option maxRecDepth 100000 in
theorem am_q197 : am_chkR am_r197 = true := by decide +kernel
set_option maxRecDepth 100000 in
theorem am_q198 : am_chkR am_r198 = true := by decide +kernel
set_option maxRecDepth 100000 in
theorem am_q199 : am_chkR am_r199 = true := by decide +kernel
set_option maxRecDepth 100000 in
theorem am_q200 : am_chkR am_r200 = true := by decide +kernel
set_option maxRecDepth 100000 in
theorem am_q201 : am_chkR am_r201 = true := by decide +kernel
set_option maxRecDepth 100000 in
theorem am_q202 : am_chkR am_r202 = true := by decide +kernel
set_option maxRecDepth 100000 in
theorem am_q203 : am_chkR am_r203 = true := by decide +kernel
set_option maxRecDepth 100000 in
theorem am_q204 : am_chkR am_r204 = true := by decide +kernel
set_option maxRecDepth 100000 in
theorem am_q205 : am_chkR am_r205 = true := by decide +kernel
set_option maxRecDepth 100000 in
theorem am_q206 : am_chkR am_r206 = true := by decide +kernel
set_option maxRecDepth 100000 in
theorem am_q207 : am_chkR am_r207 = true := by decide +kernel
set_option maxRecDepth 100000 in
theorem am_q208 : am_chkR am_r208 = true := by decide +kernel
set_option maxRecDepth 100000 in
theorem am_q209 : am_chkR am_r209 = true := by decide +kernel
set_option maxRecDepth 100000 in
theorem am_q210 : am_chkR am_r210 = true := by decide +kernel
set_option maxRecDepth 100000 in
theorem am_q211 : am_chkR am_r211 = true := by decide +kernel
set_option maxRecDepth 100000 in
theorem am_q212 : am_chkR am_r212 = true := by decide +kernel
set_option maxRecDepth 100000 in
theorem am_q213 : am_chkR am_r213 = true := by decide +kernel
set_option maxRecDepth 100000 in
theorem am_q214 : am_chkR am_r214 = true := by decide +kernel
set_option maxRecDepth 100000 in
theorem am_q215 : am_chkR am_r215 = true := by decide +kernel
set_option maxRecDepth 100000 in
theorem am_q216 : am_chkR am_r216 = true := by decide +kernel
set_option maxRecDepth 100000 in
theorem am_q217 : am_chkR am_r217 = true := by decide +kernel
set_option maxRecDepth 100000 in
theorem am_q218 : am_chkR am_r218 = true := by decide +kernel
set_option maxRecDepth 100000 in
theorem am_m1 : am_chkM am_r1 (1, [356, 355, 89, 0]) = true := by decide +kernel
set_option maxRecDepth 100000 in
theorem am_m2 : am_chkM am_r2 (0, [806, 804, 89, 805]) = true := by decide +kernel
set_option maxRecDepth 100000 in
theorem am_m3 : am_chkM am_r3 (0, [810, 809, 89, 20]) = true := by decide +kernel
set_option maxRecDepth 100000 in
theorem am_m4 : am_chkM am_r4 (1, [230, 229, 85, 0]) = true := by decide +kernel
set_option maxRecDepth 100000 in
theorem am_m5 : am_chkM am_r5 (0, [524, 522, 85, 523]) = true := by decide +kernel
set_option maxRecDepth 100000 in
theorem am_m6 : am_chkM am_r6 (0, [832, 830, 85, 831]) = true := by decide +kernel
set_option maxRecDepth 100000 in
theorem am_m7 : am_chkM am_r7 (0, [715, 713, 85, 714]) = true := by decide +kernel
set_option maxRecDepth 100000 in
theorem am_m8 : am_chkM am_r8 (0, [740, 738, 85, 739]) = true := by decide +kernel
set_option maxRecDepth 100000 in
theorem am_m9 : am_chkM am_r9 (1, [290, 289, 86, 0]) = true := by decide +kernel
set_option maxRecDepth 100000 in
theorem am_m10 : am_chkM am_r10 (0, [608, 606, 86, 607]) = true := by decide +kernel
set_option maxRecDepth 100000 in
theorem am_m11 : am_chkM am_r11 (0, [752, 750, 86, 751]) = true := by decide +kernel
set_option maxRecDepth 100000 in
theorem am_m12 : am_chkM am_r12 (0, [612, 611, 86, 12]) = true := by decide +kernel
set_option maxRecDepth 100000 in
theorem am_m13 : am_chkM am_r13 (0, [620, 619, 86, 13]) = true := by decide +kernel
set_option maxRecDepth 100000 in
theorem am_m14 : am_chkM am_r14 (0, [626, 625, 86, 14]) = true := by decide +kernel
set_option maxRecDepth 100000 in
theorem am_m15 : am_chkM am_r15 (0, [633, 632, 86, 15]) = true := by decide +kernel
set_option maxRecDepth 100000 in
theorem am_m16 : am_chkM am_r16 (1, [312, 311, 87, 0]) = true := by decide +kernel
set_option maxRecDepth 100000 in
theorem am_m17 : am_chkM am_r17 (0, [652, 650, 87, 651]) = true := by decide +kernel
set_option maxRecDepth 100000 in
theorem am_m18 : am_chkM am_r18 (0, [662, 660, 87, 661]) = true := by decide +kernel
set_option maxRecDepth 100000 in
theorem am_m19 : am_chkM am_r19 (0, [670, 668, 87, 669]) = true := by decide +kernel
set_option maxRecDepth 100000 in
theorem am_m20 : am_chkM am_r20 (0, [674, 673, 87, 16]) = true := by decide +kernel
set_option maxRecDepth 100000 in
theorem am_m21 : am_chkM am_r21 (1, [107, 106, 80, 0]) = true := by decide +kernel
set_option maxRecDepth 100000 in
theorem am_m22 : am_chkM am_r22 (0, [412, 410, 80, 411]) = true := by decide +kernel
set_option maxRecDepth 100000 in
theorem am_m23 : am_chkM am_r23 (0, [420, 418, 80, 419]) = true := by decide +kernel
set_option maxRecDepth 100000 in
theorem am_m24 : am_chkM am_r24 (0, [431, 429, 80, 430]) = true := by decide +kernel
set_option maxRecDepth 100000 in
theorem am_m25 : am_chkM am_r25 (1, [330, 329, 88, 0]) = true := by decide +kernel
set_option maxRecDepth 100000 in
theorem am_m26 : am_chkM am_r26 (0, [764, 762, 88, 763]) = true := by decide +kernel
set_option maxRecDepth 100000 in
theorem am_m27 : am_chkM am_r27 (0, [785, 783, 88, 784]) = true := by decide +kernel
set_option maxRecDepth 100000 in
theorem am_m28 : am_chkM am_r28 (2, [769, 768, 88, 0]) = true := by decide +kernel
set_option maxRecDepth 100000 in
theorem am_m29 : am_chkM am_r29 (0, [774, 773, 88, 18]) = true := by decide +kernel
set_option maxRecDepth 100000 in
theorem am_m30 : am_chkM am_r30 (0, [778, 777, 88, 19]) = true := by decide +kernel
set_option maxRecDepth 100000 in
theorem am_m31 : am_chkM am_r31 (2, [427, 426, 91, 0]) = true := by decide +kernel
set_option maxRecDepth 100000 in
theorem am_m32 : am_chkM am_r32 (2, [502, 501, 91, 0]) = true := by decide +kernel
set_option maxRecDepth 100000 in
theorem am_m33 : am_chkM am_r33 (2, [506, 505, 91, 0]) = true := by decide +kernel
set_option maxRecDepth 100000 in
theorem am_m34 : am_chkM am_r34 (2, [517, 516, 91, 0]) = true := by decide +kernel
set_option maxRecDepth 100000 in
theorem am_m35 : am_chkM am_r35 (2, [520, 519, 91, 0]) = true := by decide +kernel
set_option maxRecDepth 100000 in
theorem am_m36 : am_chkM am_r36 (2, [434, 433, 91, 0]) = true := by decide +kernel
set_option maxRecDepth 100000 in
theorem am_m37 : am_chkM am_r37 (2, [437, 436, 91, 0]) = true := by decide +kernel
set_option maxRecDepth 100000 in
theorem am_m38 : am_chkM am_r38 (1, [187, 186, 83, 0]) = true := by decide +kernel
set_option maxRecDepth 100000 in
theorem am_m39 : am_chkM am_r39 (0, [532, 530, 83, 531]) = true := by decide +kernel
set_option maxRecDepth 100000 in
theorem am_m40 : am_chkM am_r40 (0, [793, 791, 83, 792]) = true := by decide +kernel
set_option maxRecDepth 100000 in
theorem am_m41 : am_chkM am_r41 (0, [836, 834, 83, 835]) = true := by decide +kernel
set_option maxRecDepth 100000 in
theorem am_m42 : am_chkM am_r42 (0, [695, 693, 83, 694]) = true := by decide +kernel
set_option maxRecDepth 100000 in
theorem am_m43 : am_chkM am_r43 (0, [690, 688, 83, 689]) = true := by decide +kernel
set_option maxRecDepth 100000 in
theorem am_m44 : am_chkM am_r44 (0, [686, 684, 83, 685]) = true := by decide +kernel
set_option maxRecDepth 100000 in
theorem am_m45 : am_chkM am_r45 (0, [706, 704, 83, 705]) = true := by decide +kernel
set_option maxRecDepth 100000 in
theorem am_m46 : am_chkM am_r46 (1, [207, 206, 84, 0]) = true := by decide +kernel
set_option maxRecDepth 100000 in
theorem am_m47 : am_chkM am_r47 (0, [544, 542, 84, 543]) = true := by decide +kernel
set_option maxRecDepth 100000 in
theorem am_m48 : am_chkM am_r48 (0, [558, 556, 84, 557]) = true := by decide +kernel
set_option maxRecDepth 100000 in
theorem am_m49 : am_chkM am_r49 (0, [528, 526, 84, 527]) = true := by decide +kernel
set_option maxRecDepth 100000 in
theorem am_m50 : am_chkM am_r50 (0, [827, 825, 84, 826]) = true := by decide +kernel
set_option maxRecDepth 100000 in
theorem am_m51 : am_chkM am_r51 (0, [616, 614, 84, 615]) = true := by decide +kernel
set_option maxRecDepth 100000 in
theorem am_m52 : am_chkM am_r52 (0, [638, 636, 84, 637]) = true := by decide +kernel
set_option maxRecDepth 100000 in
theorem am_m53 : am_chkM am_r53 (0, [744, 742, 84, 743]) = true := by decide +kernel
set_option maxRecDepth 100000 in
theorem am_m54 : am_chkM am_r54 (0, [868, 866, 84, 867]) = true := by decide +kernel
set_option maxRecDepth 100000 in
theorem am_m55 : am_chkM am_r55 (0, [570, 568, 84, 569]) = true := by decide +kernel
set_option maxRecDepth 100000 in
theorem am_m56 : am_chkM am_r56 (0, [580, 578, 84, 579]) = true := by decide +kernel
set_option maxRecDepth 100000 in
theorem am_m57 : am_chkM am_r57 (0, [584, 582, 84, 583]) = true := by decide +kernel
set_option maxRecDepth 100000 in
theorem am_m58 : am_chkM am_r58 (0, [592, 590, 84, 591]) = true := by decide +kernel
set_option maxRecDepth 100000 in
theorem am_m59 : am_chkM am_r59 (0, [596, 595, 84, 10]) = true := by decide +kernel
set_option maxRecDepth 100000 in
theorem am_m60 : am_chkM am_r60 (0, [600, 598, 84, 599]) = true := by decide +kernel
set_option maxRecDepth 100000 in
theorem am_m61 : am_chkM am_r61 (1, [124, 123, 81, 0]) = true := by decide +kernel
set_option maxRecDepth 100000 in
theorem am_m62 : am_chkM am_r62 (0, [445, 443, 81, 444]) = true := by decide +kernel
set_option maxRecDepth 100000 in
theorem am_m63 : am_chkM am_r63 (0, [540, 538, 81, 539]) = true := by decide +kernel
set_option maxRecDepth 100000 in
theorem am_m64 : am_chkM am_r64 (0, [549, 547, 81, 548]) = true := by decide +kernel
set_option maxRecDepth 100000 in
theorem am_m65 : am_chkM am_r65 (0, [450, 449, 81, 0]) = true := by decide +kernel
set_option maxRecDepth 100000 in
theorem am_m66 : am_chkM am_r66 (0, [454, 453, 81, 1]) = true := by decide +kernel
set_option maxRecDepth 100000 in
theorem am_m67 : am_chkM am_r67 (0, [483, 482, 81, 6]) = true := by decide +kernel
set_option maxRecDepth 100000 in
theorem am_m68 : am_chkM am_r68 (0, [461, 460, 81, 2]) = true := by decide +kernel
set_option maxRecDepth 100000 in
theorem am_m69 : am_chkM am_r69 (0, [472, 471, 81, 4]) = true := by decide +kernel
set_option maxRecDepth 100000 in
theorem am_m70 : am_chkM am_r70 (0, [476, 475, 81, 5]) = true := by decide +kernel
set_option maxRecDepth 100000 in
theorem am_m71 : am_chkM am_r71 (0, [487, 486, 81, 7]) = true := by decide +kernel
set_option maxRecDepth 100000 in
theorem am_m72 : am_chkM am_r72 (0, [495, 494, 81, 9]) = true := by decide +kernel
set_option maxRecDepth 100000 in
theorem am_m73 : am_chkM am_r73 (0, [491, 490, 81, 8]) = true := by decide +kernel
set_option maxRecDepth 100000 in
theorem am_m74 : am_chkM am_r74 (0, [468, 467, 81, 3]) = true := by decide +kernel
set_option maxRecDepth 100000 in
theorem am_m75 : am_chkM am_r75 (1, [177, 176, 82, 0]) = true := by decide +kernel
set_option maxRecDepth 100000 in
theorem am_m76 : am_chkM am_r76 (0, [566, 564, 82, 565]) = true := by decide +kernel
set_option maxRecDepth 100000 in
theorem am_m77 : am_chkM am_r77 (0, [682, 680, 82, 681]) = true := by decide +kernel
set_option maxRecDepth 100000 in
theorem am_m78 : am_chkM am_r78 (0, [510, 508, 82, 509]) = true := by decide +kernel
set_option maxRecDepth 100000 in
theorem am_m79 : am_chkM am_r79 (0, [823, 821, 82, 822]) = true := by decide +kernel
set_option maxRecDepth 100000 in
theorem am_m80 : am_chkM am_r80 (0, [852, 850, 82, 851]) = true := by decide +kernel
set_option maxRecDepth 100000 in
theorem am_m81 : am_chkM am_r81 (0, [856, 854, 82, 855]) = true := by decide +kernel
set_option maxRecDepth 100000 in
theorem am_m82 : am_chkM am_r82 (0, [864, 862, 82, 863]) = true := by decide +kernel
set_option maxRecDepth 100000 in
theorem am_m83 : am_chkM am_r83 (0, [840, 838, 82, 839]) = true := by decide +kernel
set_option maxRecDepth 100000 in
theorem am_m84 : am_chkM am_r84 (0, [860, 858, 82, 859]) = true := by decide +kernel
set_option maxRecDepth 100000 in
theorem am_m85 : am_chkM am_r85 (1, [99, 98, 79, 0]) = true := by decide +kernel
set_option maxRecDepth 100000 in
theorem am_m86 : am_chkM am_r86 (0, [408, 406, 79, 407]) = true := by decide +kernel
set_option maxRecDepth 100000 in
theorem am_m87 : am_chkM am_r87 (0, [416, 414, 79, 415]) = true := by decide +kernel
set_option maxRecDepth 100000 in
theorem am_m88 : am_chkM am_r88 (0, [424, 422, 79, 423]) = true := by decide +kernel
set_option maxRecDepth 100000 in
theorem am_m89 : am_chkM am_r89 (0, [441, 439, 79, 440]) = true := by decide +kernel
set_option maxRecDepth 100000 in
theorem am_m90 : am_chkM am_r90 (0, [499, 497, 79, 498]) = true := by decide +kernel
set_option maxRecDepth 100000 in
theorem am_m91 : am_chkM am_r91 (0, [536, 534, 79, 535]) = true := by decide +kernel
set_option maxRecDepth 100000 in
theorem am_m92 : am_chkM am_r92 (0, [554, 552, 79, 553]) = true := by decide +kernel
set_option maxRecDepth 100000 in
theorem am_m93 : am_chkM am_r93 (0, [562, 560, 79, 561]) = true := by decide +kernel
set_option maxRecDepth 100000 in
theorem am_m94 : am_chkM am_r94 (0, [643, 641, 79, 642]) = true := by decide +kernel
set_option maxRecDepth 100000 in
theorem am_m95 : am_chkM am_r95 (0, [648, 646, 79, 647]) = true := by decide +kernel
set_option maxRecDepth 100000 in
theorem am_m96 : am_chkM am_r96 (0, [658, 656, 79, 657]) = true := by decide +kernel
set_option maxRecDepth 100000 in
theorem am_m97 : am_chkM am_r97 (0, [666, 664, 79, 665]) = true := by decide +kernel
set_option maxRecDepth 100000 in
theorem am_m98 : am_chkM am_r98 (0, [678, 676, 79, 677]) = true := by decide +kernel
set_option maxRecDepth 100000 in
theorem am_m99 : am_chkM am_r99 (0, [711, 709, 79, 710]) = true := by decide +kernel
set_option maxRecDepth 100000 in
theorem am_m100 : am_chkM am_r100 (0, [719, 717, 79, 718]) = true := by decide +kernel
set_option maxRecDepth 100000 in
theorem am_m101 : am_chkM am_r101 (0, [723, 721, 79, 722]) = true := by decide +kernel
set_option maxRecDepth 100000 in
theorem am_m102 : am_chkM am_r102 (0, [728, 726, 79, 727]) = true := by decide +kernel
set_option maxRecDepth 100000 in
theorem am_m103 : am_chkM am_r103 (0, [732, 730, 79, 731]) = true := by decide +kernel
set_option maxRecDepth 100000 in
theorem am_m104 : am_chkM am_r104 (0, [736, 734, 79, 735]) = true := by decide +kernel
set_option maxRecDepth 100000 in
theorem am_m105 : am_chkM am_r105 (0, [748, 746, 79, 747]) = true := by decide +kernel
set_option maxRecDepth 100000 in
theorem am_m106 : am_chkM am_r106 (0, [756, 754, 79, 755]) = true := by decide +kernel
set_option maxRecDepth 100000 in
theorem am_m107 : am_chkM am_r107 (0, [760, 758, 79, 759]) = true := by decide +kernel
set_option maxRecDepth 100000 in
theorem am_m108 : am_chkM am_r108 (0, [789, 787, 79, 788]) = true := by decide +kernel
set_option maxRecDepth 100000 in
theorem am_m109 : am_chkM am_r109 (0, [797, 795, 79, 796]) = true := by decide +kernel
set_option maxRecDepth 100000 in
theorem am_m110 : am_chkM am_r110 (0, [802, 800, 79, 801]) = true := by decide +kernel
set_option maxRecDepth 100000 in
theorem am_m111 : am_chkM am_r111 (0, [819, 817, 79, 818]) = true := by decide +kernel
set_option maxRecDepth 100000 in
theorem am_m112 : am_chkM am_r112 (0, [844, 842, 79, 843]) = true := by decide +kernel
set_option maxRecDepth 100000 in
theorem am_m113 : am_chkM am_r113 (0, [848, 846, 79, 847]) = true := by decide +kernel
set_option maxRecDepth 100000 in
theorem am_m114 : am_chkM am_r114 (0, [876, 874, 79, 875]) = true := by decide +kernel
set_option maxRecDepth 100000 in
theorem am_m115 : am_chkM am_r115 (0, [881, 880, 79, 22]) = true := by decide +kernel
set_option maxRecDepth 100000 in
theorem am_m116 : am_chkM am_r116 (0, [892, 891, 79, 23]) = true := by decide +kernel
set_option maxRecDepth 100000 in
theorem am_m117 : am_chkM am_r117 (0, [604, 603, 79, 11]) = true := by decide +kernel
set_option maxRecDepth 100000 in
theorem am_m118 : am_chkM am_r118 (0, [872, 871, 79, 21]) = true := by decide +kernel
set_option maxRecDepth 100000 in
theorem am_m119 : am_chkM am_r119 (0, [702, 701, 79, 17]) = true := by decide +kernel
set_option maxRecDepth 100000 in
theorem am_m120 : am_chkM am_r120 (2, [457, 456, 79, 0]) = true := by decide +kernel
set_option maxRecDepth 100000 in
theorem am_m121 : am_chkM am_r121 (2, [464, 463, 79, 0]) = true := by decide +kernel
set_option maxRecDepth 100000 in
theorem am_m122 : am_chkM am_r122 (2, [587, 586, 79, 0]) = true := by decide +kernel
set_option maxRecDepth 100000 in
theorem am_m123 : am_chkM am_r123 (1, [899, 898, 90, 0]) = true := by decide +kernel
set_option maxRecDepth 100000 in
theorem am_m124 : am_chkM am_r124 (2, [1080, 1079, 90, 0]) = true := by decide +kernel
set_option maxRecDepth 100000 in
theorem am_m125 : am_chkM am_r125 (2, [1207, 1206, 90, 0]) = true := by decide +kernel
set_option maxRecDepth 100000 in
theorem am_m126 : am_chkM am_r126 (2, [1189, 1188, 90, 0]) = true := by decide +kernel
set_option maxRecDepth 100000 in
theorem am_m127 : am_chkM am_r127 (2, [1237, 1236, 90, 0]) = true := by decide +kernel
set_option maxRecDepth 100000 in
theorem am_m128 : am_chkM am_r128 (2, [1122, 1121, 90, 0]) = true := by decide +kernel
set_option maxRecDepth 100000 in
theorem am_m129 : am_chkM am_r129 (2, [1204, 1203, 90, 0]) = true := by decide +kernel
set_option maxRecDepth 100000 in
theorem am_m130 : am_chkM am_r130 (0, [1077, 1075, 90, 1076]) = true := by decide +kernel
set_option maxRecDepth 100000 in
theorem am_m131 : am_chkM am_r131 (0, [1084, 1082, 90, 1083]) = true := by decide +kernel
set_option maxRecDepth 100000 in
theorem am_m132 : am_chkM am_r132 (2, [1095, 1094, 90, 0]) = true := by decide +kernel
set_option maxRecDepth 100000 in
theorem am_m133 : am_chkM am_r133 (0, [1099, 1098, 90, 25]) = true := by decide +kernel
set_option maxRecDepth 100000 in
theorem am_m134 : am_chkM am_r134 (0, [1092, 1091, 90, 24]) = true := by decide +kernel
set_option maxRecDepth 100000 in
theorem am_m135 : am_chkM am_r135 (0, [1088, 1086, 90, 1087]) = true := by decide +kernel
set_option maxRecDepth 100000 in
theorem am_m136 : am_chkM am_r136 (0, [1126, 1125, 90, 30]) = true := by decide +kernel
set_option maxRecDepth 100000 in
theorem am_m137 : am_chkM am_r137 (0, [1119, 1118, 90, 29]) = true := by decide +kernel
set_option maxRecDepth 100000 in
theorem am_m138 : am_chkM am_r138 (0, [1130, 1129, 90, 31]) = true := by decide +kernel
set_option maxRecDepth 100000 in
theorem am_m139 : am_chkM am_r139 (0, [1142, 1141, 90, 34]) = true := by decide +kernel
set_option maxRecDepth 100000 in
theorem am_m140 : am_chkM am_r140 (0, [1138, 1137, 90, 33]) = true := by decide +kernel
set_option maxRecDepth 100000 in
theorem am_m141 : am_chkM am_r141 (0, [1115, 1114, 90, 28]) = true := by decide +kernel
set_option maxRecDepth 100000 in
theorem am_m142 : am_chkM am_r142 (0, [1134, 1133, 90, 32]) = true := by decide +kernel
set_option maxRecDepth 100000 in
theorem am_m143 : am_chkM am_r143 (0, [1150, 1149, 90, 36]) = true := by decide +kernel
set_option maxRecDepth 100000 in
theorem am_m144 : am_chkM am_r144 (0, [1146, 1145, 90, 35]) = true := by decide +kernel
set_option maxRecDepth 100000 in
theorem am_m145 : am_chkM am_r145 (0, [1111, 1110, 90, 27]) = true := by decide +kernel
set_option maxRecDepth 100000 in
theorem am_m146 : am_chkM am_r146 (0, [1107, 1106, 90, 26]) = true := by decide +kernel
set_option maxRecDepth 100000 in
theorem am_m147 : am_chkM am_r147 (0, [1103, 1101, 90, 1102]) = true := by decide +kernel
set_option maxRecDepth 100000 in
theorem am_m148 : am_chkM am_r148 (0, [1154, 1152, 90, 1153]) = true := by decide +kernel
set_option maxRecDepth 100000 in
theorem am_m149 : am_chkM am_r149 (0, [1162, 1161, 90, 37]) = true := by decide +kernel
set_option maxRecDepth 100000 in
theorem am_m150 : am_chkM am_r150 (0, [1158, 1156, 90, 1157]) = true := by decide +kernel
set_option maxRecDepth 100000 in
theorem am_m151 : am_chkM am_r151 (0, [1166, 1164, 90, 1165]) = true := by decide +kernel
set_option maxRecDepth 100000 in
theorem am_m152 : am_chkM am_r152 (0, [1174, 1173, 90, 38]) = true := by decide +kernel
set_option maxRecDepth 100000 in
theorem am_m153 : am_chkM am_r153 (0, [1277, 1276, 90, 55]) = true := by decide +kernel
set_option maxRecDepth 100000 in
theorem am_m154 : am_chkM am_r154 (0, [1186, 1185, 90, 41]) = true := by decide +kernel
set_option maxRecDepth 100000 in
theorem am_m155 : am_chkM am_r155 (0, [1182, 1181, 90, 40]) = true := by decide +kernel
set_option maxRecDepth 100000 in
theorem am_m156 : am_chkM am_r156 (0, [1193, 1192, 90, 42]) = true := by decide +kernel
set_option maxRecDepth 100000 in
theorem am_m157 : am_chkM am_r157 (0, [1197, 1196, 90, 43]) = true := by decide +kernel
set_option maxRecDepth 100000 in
theorem am_m158 : am_chkM am_r158 (0, [1201, 1200, 90, 44]) = true := by decide +kernel
set_option maxRecDepth 100000 in
theorem am_m159 : am_chkM am_r159 (0, [1211, 1210, 90, 45]) = true := by decide +kernel
set_option maxRecDepth 100000 in
theorem am_m160 : am_chkM am_r160 (0, [1215, 1214, 90, 46]) = true := by decide +kernel
set_option maxRecDepth 100000 in
theorem am_m161 : am_chkM am_r161 (0, [1219, 1218, 90, 47]) = true := by decide +kernel
set_option maxRecDepth 100000 in
theorem am_m162 : am_chkM am_r162 (0, [1178, 1177, 90, 39]) = true := by decide +kernel
set_option maxRecDepth 100000 in
theorem am_m163 : am_chkM am_r163 (0, [1170, 1168, 90, 1169]) = true := by decide +kernel
set_option maxRecDepth 100000 in
theorem am_m164 : am_chkM am_r164 (0, [1241, 1239, 90, 1240]) = true := by decide +kernel
set_option maxRecDepth 100000 in
theorem am_m165 : am_chkM am_r165 (0, [1249, 1248, 90, 51]) = true := by decide +kernel
set_option maxRecDepth 100000 in
theorem am_m166 : am_chkM am_r166 (0, [1245, 1243, 90, 1244]) = true := by decide +kernel
set_option maxRecDepth 100000 in
theorem am_m167 : am_chkM am_r167 (0, [1261, 1260, 90, 53]) = true := by decide +kernel
set_option maxRecDepth 100000 in
theorem am_m168 : am_chkM am_r168 (0, [1257, 1256, 90, 52]) = true := by decide +kernel
set_option maxRecDepth 100000 in
theorem am_m169 : am_chkM am_r169 (0, [1253, 1251, 90, 1252]) = true := by decide +kernel
set_option maxRecDepth 100000 in
theorem am_m170 : am_chkM am_r170 (0, [1269, 1268, 90, 54]) = true := by decide +kernel
set_option maxRecDepth 100000 in
theorem am_m171 : am_chkM am_r171 (0, [1265, 1263, 90, 1264]) = true := by decide +kernel
set_option maxRecDepth 100000 in
theorem am_m172 : am_chkM am_r172 (2, [1230, 1229, 90, 0]) = true := by decide +kernel
set_option maxRecDepth 100000 in
theorem am_m173 : am_chkM am_r173 (0, [1234, 1233, 90, 50]) = true := by decide +kernel
set_option maxRecDepth 100000 in
theorem am_m174 : am_chkM am_r174 (0, [1227, 1226, 90, 49]) = true := by decide +kernel
set_option maxRecDepth 100000 in
theorem am_m175 : am_chkM am_r175 (0, [1223, 1222, 90, 48]) = true := by decide +kernel
set_option maxRecDepth 100000 in
theorem am_m176 : am_chkM am_r176 (0, [1298, 1297, 90, 60]) = true := by decide +kernel
set_option maxRecDepth 100000 in
theorem am_m177 : am_chkM am_r177 (0, [1281, 1280, 90, 56]) = true := by decide +kernel
set_option maxRecDepth 100000 in
theorem am_m178 : am_chkM am_r178 (0, [1273, 1271, 90, 1272]) = true := by decide +kernel
set_option maxRecDepth 100000 in
theorem am_m179 : am_chkM am_r179 (0, [1302, 1300, 90, 1301]) = true := by decide +kernel
set_option maxRecDepth 100000 in
theorem am_m180 : am_chkM am_r180 (0, [1306, 1304, 90, 1305]) = true := by decide +kernel
set_option maxRecDepth 100000 in
theorem am_m181 : am_chkM am_r181 (0, [1310, 1308, 90, 1309]) = true := by decide +kernel
set_option maxRecDepth 100000 in
theorem am_m182 : am_chkM am_r182 (0, [1314, 1312, 90, 1313]) = true := by decide +kernel
set_option maxRecDepth 100000 in
theorem am_m183 : am_chkM am_r183 (0, [1318, 1316, 90, 1317]) = true := by decide +kernel
set_option maxRecDepth 100000 in
theorem am_m184 : am_chkM am_r184 (0, [1322, 1320, 90, 1321]) = true := by decide +kernel
set_option maxRecDepth 100000 in
theorem am_m185 : am_chkM am_r185 (0, [1330, 1329, 90, 61]) = true := by decide +kernel
set_option maxRecDepth 100000 in
theorem am_m186 : am_chkM am_r186 (0, [1326, 1324, 90, 1325]) = true := by decide +kernel
set_option maxRecDepth 100000 in
theorem am_m187 : am_chkM am_r187 (0, [1338, 1337, 90, 62]) = true := by decide +kernel
set_option maxRecDepth 100000 in
theorem am_m188 : am_chkM am_r188 (0, [1334, 1332, 90, 1333]) = true := by decide +kernel
set_option maxRecDepth 100000 in
theorem am_m189 : am_chkM am_r189 (0, [1350, 1349, 90, 64]) = true := by decide +kernel
set_option maxRecDepth 100000 in
theorem am_m190 : am_chkM am_r190 (0, [1354, 1353, 90, 65]) = true := by decide +kernel
set_option maxRecDepth 100000 in
theorem am_m191 : am_chkM am_r191 (0, [1358, 1357, 90, 66]) = true := by decide +kernel
set_option maxRecDepth 100000 in
theorem am_m192 : am_chkM am_r192 (0, [1346, 1345, 90, 63]) = true := by decide +kernel
set_option maxRecDepth 100000 in
theorem am_m193 : am_chkM am_r193 (0, [1342, 1340, 90, 1341]) = true := by decide +kernel
set_option maxRecDepth 100000 in
theorem am_m194 : am_chkM am_r194 (0, [1362, 1360, 90, 1361]) = true := by decide +kernel
set_option maxRecDepth 100000 in
theorem am_m195 : am_chkM am_r195 (0, [1366, 1364, 90, 1365]) = true := by decide +kernel
set_option maxRecDepth 100000 in
theorem am_m196 : am_chkM am_r196 (0, [1289, 1288, 90, 58]) = true := by decide +kernel
set_option maxRecDepth 100000 in
theorem am_m197 : am_chkM am_r197 (0, [1285, 1284, 90, 57]) = true := by decide +kernel
set_option maxRecDepth 100000 in
theorem am_m198 : am_chkM am_r198 (0, [1293, 1292, 90, 59]) = true := by decide +kernel
set_option maxRecDepth 100000 in
theorem am_m199 : am_chkM am_r199 (0, [1378, 1377, 90, 68]) = true := by decide +kernel
set_option maxRecDepth 100000 in
theorem am_m200 : am_chkM am_r200 (0, [1374, 1373, 90, 67]) = true := by decide +kernel
set_option maxRecDepth 100000 in
theorem am_m201 : am_chkM am_r201 (0, [1370, 1368, 90, 1369]) = true := by decide +kernel
set_option maxRecDepth 100000 in
theorem am_m202 : am_chkM am_r202 (0, [1390, 1389, 90, 69]) = true := by decide +kernel
set_option maxRecDepth 100000 in
theorem am_m203 : am_chkM am_r203 (0, [1386, 1384, 90, 1385]) = true := by decide +kernel
set_option maxRecDepth 100000 in
theorem am_m204 : am_chkM am_r204 (0, [1394, 1392, 90, 1393]) = true := by decide +kernel
set_option maxRecDepth 100000 in
theorem am_m205 : am_chkM am_r205 (0, [1406, 1405, 90, 71]) = true := by decide +kernel
set_option maxRecDepth 100000 in
theorem am_m206 : am_chkM am_r206 (0, [1410, 1409, 90, 72]) = true := by decide +kernel
set_option maxRecDepth 100000 in
theorem am_m207 : am_chkM am_r207 (0, [1414, 1413, 90, 73]) = true := by decide +kernel
set_option maxRecDepth 100000 in
theorem am_m208 : am_chkM am_r208 (0, [1418, 1417, 90, 74]) = true := by decide +kernel
set_option maxRecDepth 100000 in
theorem am_m209 : am_chkM am_r209 (0, [1422, 1421, 90, 75]) = true := by decide +kernel
set_option maxRecDepth 100000 in
theorem am_m210 : am_chkM am_r210 (0, [1402, 1401, 90, 70]) = true := by decide +kernel
set_option maxRecDepth 100000 in
theorem am_m211 : am_chkM am_r211 (0, [1398, 1396, 90, 1397]) = true := by decide +kernel
set_option maxRecDepth 100000 in
theorem am_m212 : am_chkM am_r212 (0, [1432, 1431, 90, 76]) = true := by decide +kernel
set_option maxRecDepth 100000 in
theorem am_m213 : am_chkM am_r213 (0, [1437, 1436, 90, 77]) = true := by decide +kernel
set_option maxRecDepth 100000 in
theorem am_m214 : am_chkM am_r214 (0, [1426, 1424, 90, 1425]) = true := by decide +kernel
set_option maxRecDepth 100000 in
theorem am_m215 : am_chkM am_r215 (2, [573, 572, 93, 0]) = true := by decide +kernel
set_option maxRecDepth 100000 in
theorem am_m216 : am_chkM am_r216 (2, [629, 628, 92, 0]) = true := by decide +kernel
set_option maxRecDepth 100000 in
theorem am_m217 : am_chkM am_r217 (2, [479, 478, 92, 0]) = true := by decide +kernel
set_option maxRecDepth 100000 in
theorem am_m218 : am_chkM am_r218 (2, [514, 513, 92, 0]) = true := by decide +kernel
set_option maxRecDepth 100000 in
theorem am_d1 : lw_tbl[356]? = some (am_cd am_r1) := by rfl
set_option maxRecDepth 100000 in
theorem am_d2 : lw_tbl[806]? = some (am_cd am_r2) := by rfl
set_option maxRecDepth 100000 in
theorem am_d3 : lw_tbl[810]? = some (am_cd am_r3) := by rfl
set_option maxRecDepth 100000 in
theorem am_d4 : lw_tbl[230]? = some (am_cd am_r4) := by rfl
set_option maxRecDepth 100000 in
theorem am_d5 : lw_tbl[524]? = some (am_cd am_r5) := by rfl
set_option maxRecDepth 100000 in
theorem am_d6 : lw_tbl[832]? = some (am_cd am_r6) := by rfl
set_option maxRecDepth 100000 in
theorem am_d7 : lw_tbl[715]? = some (am_cd am_r7) := by rfl
set_option maxRecDepth 100000 in
theorem am_d8 : lw_tbl[740]? = some (am_cd am_r8) := by rfl
set_option maxRecDepth 100000 in
theorem am_d9 : lw_tbl[290]? = some (am_cd am_r9) := by rfl
set_option maxRecDepth 100000 in
theorem am_d10 : lw_tbl[608]? = some (am_cd am_r10) := by rfl
set_option maxRecDepth 100000 in
theorem am_d11 : lw_tbl[752]? = some (am_cd am_r11) := by rfl
set_option maxRecDepth 100000 in
theorem am_d12 : lw_tbl[612]? = some (am_cd am_r12) := by rfl
set_option maxRecDepth 100000 in
theorem am_d13 : lw_tbl[620]? = some (am_cd am_r13) := by rfl
set_option maxRecDepth 100000 in
theorem am_d14 : lw_tbl[626]? = some (am_cd am_r14) := by rfl
set_option maxRecDepth 100000 in
theorem am_d15 : lw_tbl[633]? = some (am_cd am_r15) := by rfl
set_option maxRecDepth 100000 in
theorem am_d16 : lw_tbl[312]? = some (am_cd am_r16) := by rfl
set_option maxRecDepth 100000 in
theorem am_d17 : lw_tbl[652]? = some (am_cd am_r17) := by rfl
set_option maxRecDepth 100000 in
theorem am_d18 : lw_tbl[662]? = some (am_cd am_r18) := by rfl
set_option maxRecDepth 100000 in
theorem am_d19 : lw_tbl[670]? = some (am_cd am_r19) := by rfl
set_option maxRecDepth 100000 in
theorem am_d20 : lw_tbl[674]? = some (am_cd am_r20) := by rfl
set_option maxRecDepth 100000 in
theorem am_d21 : lw_tbl[107]? = some (am_cd am_r21) := by rfl
set_option maxRecDepth 100000 in
theorem am_d22 : lw_tbl[412]? = some (am_cd am_r22) := by rfl
set_option maxRecDepth 100000 in
theorem am_d23 : lw_tbl[420]? = some (am_cd am_r23) := by rfl
set_option maxRecDepth 100000 in
theorem am_d24 : lw_tbl[431]? = some (am_cd am_r24) := by rfl
set_option maxRecDepth 100000 in
theorem am_d25 : lw_tbl[330]? = some (am_cd am_r25) := by rfl
set_option maxRecDepth 100000 in
theorem am_d26 : lw_tbl[764]? = some (am_cd am_r26) := by rfl
set_option maxRecDepth 100000 in
theorem am_d27 : lw_tbl[785]? = some (am_cd am_r27) := by rfl
set_option maxRecDepth 100000 in
theorem am_d28 : lw_tbl[769]? = some (am_cd am_r28) := by rfl
set_option maxRecDepth 100000 in
theorem am_d29 : lw_tbl[774]? = some (am_cd am_r29) := by rfl
set_option maxRecDepth 100000 in
theorem am_d30 : lw_tbl[778]? = some (am_cd am_r30) := by rfl
set_option maxRecDepth 100000 in
theorem am_d31 : lw_tbl[427]? = some (am_cd am_r31) := by rfl
set_option maxRecDepth 100000 in
theorem am_d32 : lw_tbl[502]? = some (am_cd am_r32) := by rfl
set_option maxRecDepth 100000 in
theorem am_d33 : lw_tbl[506]? = some (am_cd am_r33) := by rfl
set_option maxRecDepth 100000 in
theorem am_d34 : lw_tbl[517]? = some (am_cd am_r34) := by rfl
set_option maxRecDepth 100000 in
theorem am_d35 : lw_tbl[520]? = some (am_cd am_r35) := by rfl
set_option maxRecDepth 100000 in
theorem am_d36 : lw_tbl[434]? = some (am_cd am_r36) := by rfl
set_option maxRecDepth 100000 in
theorem am_d37 : lw_tbl[437]? = some (am_cd am_r37) := by rfl
set_option maxRecDepth 100000 in
theorem am_d38 : lw_tbl[187]? = some (am_cd am_r38) := by rfl
set_option maxRecDepth 100000 in
theorem am_d39 : lw_tbl[532]? = some (am_cd am_r39) := by rfl
set_option maxRecDepth 100000 in
theorem am_d40 : lw_tbl[793]? = some (am_cd am_r40) := by rfl
set_option maxRecDepth 100000 in
theorem am_d41 : lw_tbl[836]? = some (am_cd am_r41) := by rfl
set_option maxRecDepth 100000 in
theorem am_d42 : lw_tbl[695]? = some (am_cd am_r42) := by rfl
set_option maxRecDepth 100000 in
theorem am_d43 : lw_tbl[690]? = some (am_cd am_r43) := by rfl
set_option maxRecDepth 100000 in
theorem am_d44 : lw_tbl[686]? = some (am_cd am_r44) := by rfl
set_option maxRecDepth 100000 in
theorem am_d45 : lw_tbl[706]? = some (am_cd am_r45) := by rfl
set_option maxRecDepth 100000 in
theorem am_d46 : lw_tbl[207]? = some (am_cd am_r46) := by rfl
set_option maxRecDepth 100000 in
theorem am_d47 : lw_tbl[544]? = some (am_cd am_r47) := by rfl
set_option maxRecDepth 100000 in
theorem am_d48 : lw_tbl[558]? = some (am_cd am_r48) := by rfl
set_option maxRecDepth 100000 in
theorem am_d49 : lw_tbl[528]? = some (am_cd am_r49) := by rfl
set_option maxRecDepth 100000 in
theorem am_d50 : lw_tbl[827]? = some (am_cd am_r50) := by rfl
set_option maxRecDepth 100000 in
theorem am_d51 : lw_tbl[616]? = some (am_cd am_r51) := by rfl
set_option maxRecDepth 100000 in
theorem am_d52 : lw_tbl[638]? = some (am_cd am_r52) := by rfl
set_option maxRecDepth 100000 in
theorem am_d53 : lw_tbl[744]? = some (am_cd am_r53) := by rfl
set_option maxRecDepth 100000 in
theorem am_d54 : lw_tbl[868]? = some (am_cd am_r54) := by rfl
set_option maxRecDepth 100000 in
theorem am_d55 : lw_tbl[570]? = some (am_cd am_r55) := by rfl
set_option maxRecDepth 100000 in
theorem am_d56 : lw_tbl[580]? = some (am_cd am_r56) := by rfl
set_option maxRecDepth 100000 in
theorem am_d57 : lw_tbl[584]? = some (am_cd am_r57) := by rfl
set_option maxRecDepth 100000 in
theorem am_d58 : lw_tbl[592]? = some (am_cd am_r58) := by rfl
set_option maxRecDepth 100000 in
theorem am_d59 : lw_tbl[596]? = some (am_cd am_r59) := by rfl
set_option maxRecDepth 100000 in
theorem am_d60 : lw_tbl[600]? = some (am_cd am_r60) := by rfl
set_option maxRecDepth 100000 in
theorem am_d61 : lw_tbl[124]? = some (am_cd am_r61) := by rfl
set_option maxRecDepth 100000 in
theorem am_d62 : lw_tbl[445]? = some (am_cd am_r62) := by rfl
set_option maxRecDepth 100000 in
theorem am_d63 : lw_tbl[540]? = some (am_cd am_r63) := by rfl
set_option maxRecDepth 100000 in
theorem am_d64 : lw_tbl[549]? = some (am_cd am_r64) := by rfl
set_option maxRecDepth 100000 in
theorem am_d65 : lw_tbl[450]? = some (am_cd am_r65) := by rfl
set_option maxRecDepth 100000 in
theorem am_d66 : lw_tbl[454]? = some (am_cd am_r66) := by rfl
set_option maxRecDepth 100000 in
theorem am_d67 : lw_tbl[483]? = some (am_cd am_r67) := by rfl
set_option maxRecDepth 100000 in
theorem am_d68 : lw_tbl[461]? = some (am_cd am_r68) := by rfl
set_option maxRecDepth 100000 in
theorem am_d69 : lw_tbl[472]? = some (am_cd am_r69) := by rfl
set_option maxRecDepth 100000 in
theorem am_d70 : lw_tbl[476]? = some (am_cd am_r70) := by rfl
set_option maxRecDepth 100000 in
theorem am_d71 : lw_tbl[487]? = some (am_cd am_r71) := by rfl
set_option maxRecDepth 100000 in
theorem am_d72 : lw_tbl[495]? = some (am_cd am_r72) := by rfl
set_option maxRecDepth 100000 in
theorem am_d73 : lw_tbl[491]? = some (am_cd am_r73) := by rfl
set_option maxRecDepth 100000 in
theorem am_d74 : lw_tbl[468]? = some (am_cd am_r74) := by rfl
set_option maxRecDepth 100000 in
theorem am_d75 : lw_tbl[177]? = some (am_cd am_r75) := by rfl
set_option maxRecDepth 100000 in
theorem am_d76 : lw_tbl[566]? = some (am_cd am_r76) := by rfl
set_option maxRecDepth 100000 in
theorem am_d77 : lw_tbl[682]? = some (am_cd am_r77) := by rfl
set_option maxRecDepth 100000 in
theorem am_d78 : lw_tbl[510]? = some (am_cd am_r78) := by rfl
set_option maxRecDepth 100000 in
theorem am_d79 : lw_tbl[823]? = some (am_cd am_r79) := by rfl
set_option maxRecDepth 100000 in
theorem am_d80 : lw_tbl[852]? = some (am_cd am_r80) := by rfl
set_option maxRecDepth 100000 in
theorem am_d81 : lw_tbl[856]? = some (am_cd am_r81) := by rfl
set_option maxRecDepth 100000 in
theorem am_d82 : lw_tbl[864]? = some (am_cd am_r82) := by rfl
set_option maxRecDepth 100000 in
theorem am_d83 : lw_tbl[840]? = some (am_cd am_r83) := by rfl
set_option maxRecDepth 100000 in
theorem am_d84 : lw_tbl[860]? = some (am_cd am_r84) := by rfl
set_option maxRecDepth 100000 in
theorem am_d85 : lw_tbl[99]? = some (am_cd am_r85) := by rfl
set_option maxRecDepth 100000 in
theorem am_d86 : lw_tbl[408]? = some (am_cd am_r86) := by rfl
set_option maxRecDepth 100000 in
theorem am_d87 : lw_tbl[416]? = some (am_cd am_r87) := by rfl
set_option maxRecDepth 100000 in
theorem am_d88 : lw_tbl[424]? = some (am_cd am_r88) := by rfl
set_option maxRecDepth 100000 in
theorem am_d89 : lw_tbl[441]? = some (am_cd am_r89) := by rfl
set_option maxRecDepth 100000 in
theorem am_d90 : lw_tbl[499]? = some (am_cd am_r90) := by rfl
set_option maxRecDepth 100000 in
theorem am_d91 : lw_tbl[536]? = some (am_cd am_r91) := by rfl
set_option maxRecDepth 100000 in
theorem am_d92 : lw_tbl[554]? = some (am_cd am_r92) := by rfl
set_option maxRecDepth 100000 in
theorem am_d93 : lw_tbl[562]? = some (am_cd am_r93) := by rfl
set_option maxRecDepth 100000 in
theorem am_d94 : lw_tbl[643]? = some (am_cd am_r94) := by rfl
set_option maxRecDepth 100000 in
theorem am_d95 : lw_tbl[648]? = some (am_cd am_r95) := by rfl
set_option maxRecDepth 100000 in
theorem am_d96 : lw_tbl[658]? = some (am_cd am_r96) := by rfl
set_option maxRecDepth 100000 in
theorem am_d97 : lw_tbl[666]? = some (am_cd am_r97) := by rfl
set_option maxRecDepth 100000 in
theorem am_d98 : lw_tbl[678]? = some (am_cd am_r98) := by rfl
set_option maxRecDepth 100000 in
theorem am_d99 : lw_tbl[711]? = some (am_cd am_r99) := by rfl
set_option maxRecDepth 100000 in
theorem am_d100 : lw_tbl[719]? = some (am_cd am_r100) := by rfl
set_option maxRecDepth 100000 in
theorem am_d101 : lw_tbl[723]? = some (am_cd am_r101) := by rfl
set_option maxRecDepth 100000 in
theorem am_d102 : lw_tbl[728]? = some (am_cd am_r102) := by rfl
set_option maxRecDepth 100000 in
theorem am_d103 : lw_tbl[732]? = some (am_cd am_r103) := by rfl
set_option maxRecDepth 100000 in
theorem am_d104 : lw_tbl[736]? = some (am_cd am_r104) := by rfl
set_option maxRecDepth 100000 in
theorem am_d105 : lw_tbl[748]? = some (am_cd am_r105) := by rfl
set_option maxRecDepth 100000 in
theorem am_d106 : lw_tbl[756]? = some (am_cd am_r106) := by rfl
set_option maxRecDepth 100000 in
theorem am_d107 : lw_tbl[760]? = some (am_cd am_r107) := by rfl
set_option maxRecDepth 100000 in
theorem am_d108 : lw_tbl[789]? = some (am_cd am_r108) := by rfl
set_option maxRecDepth 100000 in
theorem am_d109 : lw_tbl[797]? = some (am_cd am_r109) := by rfl
set_option maxRecDepth 100000 in
theorem am_d110 : lw_tbl[802]? = some (am_cd am_r110) := by rfl
set_option maxRecDepth 100000 in
theorem am_d111 : lw_tbl[819]? = some (am_cd am_r111) := by rfl
set_option maxRecDepth 100000 in
theorem am_d112 : lw_tbl[844]? = some (am_cd am_r112) := by rfl
set_option maxRecDepth 100000 in
theorem am_d113 : lw_tbl[848]? = some (am_cd am_r113) := by rfl
set_option maxRecDepth 100000 in
theorem am_d114 : lw_tbl[876]? = some (am_cd am_r114) := by rfl
set_option maxRecDepth 100000 in
theorem am_d115 : lw_tbl[881]? = some (am_cd am_r115) := by rfl
set_option maxRecDepth 100000 in
theorem am_d116 : lw_tbl[892]? = some (am_cd am_r116) := by rfl
set_option maxRecDepth 100000 in
theorem am_d117 : lw_tbl[604]? = some (am_cd am_r117) := by rfl
set_option maxRecDepth 100000 in
theorem am_d118 : lw_tbl[872]? = some (am_cd am_r118) := by rfl
set_option maxRecDepth 100000 in
theorem am_d119 : lw_tbl[702]? = some (am_cd am_r119) := by rfl
set_option maxRecDepth 100000 in
theorem am_d120 : lw_tbl[457]? = some (am_cd am_r120) := by rfl
set_option maxRecDepth 100000 in
theorem am_d121 : lw_tbl[464]? = some (am_cd am_r121) := by rfl
set_option maxRecDepth 100000 in
theorem am_d122 : lw_tbl[587]? = some (am_cd am_r122) := by rfl
set_option maxRecDepth 100000 in
theorem am_d123 : lw_tbl[899]? = some (am_cd am_r123) := by rfl
set_option maxRecDepth 100000 in
theorem am_d124 : lw_tbl[1080]? = some (am_cd am_r124) := by rfl
set_option maxRecDepth 100000 in
theorem am_d125 : lw_tbl[1207]? = some (am_cd am_r125) := by rfl
set_option maxRecDepth 100000 in
theorem am_d126 : lw_tbl[1189]? = some (am_cd am_r126) := by rfl
set_option maxRecDepth 100000 in
theorem am_d127 : lw_tbl[1237]? = some (am_cd am_r127) := by rfl
set_option maxRecDepth 100000 in
theorem am_d128 : lw_tbl[1122]? = some (am_cd am_r128) := by rfl
set_option maxRecDepth 100000 in
theorem am_d129 : lw_tbl[1204]? = some (am_cd am_r129) := by rfl
set_option maxRecDepth 100000 in
theorem am_d130 : lw_tbl[1077]? = some (am_cd am_r130) := by rfl
set_option maxRecDepth 100000 in
theorem am_d131 : lw_tbl[1084]? = some (am_cd am_r131) := by rfl
set_option maxRecDepth 100000 in
theorem am_d132 : lw_tbl[1095]? = some (am_cd am_r132) := by rfl
set_option maxRecDepth 100000 in
theorem am_d133 : lw_tbl[1099]? = some (am_cd am_r133) := by rfl
set_option maxRecDepth 100000 in
theorem am_d134 : lw_tbl[1092]? = some (am_cd am_r134) := by rfl
set_option maxRecDepth 100000 in
theorem am_d135 : lw_tbl[1088]? = some (am_cd am_r135) := by rfl
set_option maxRecDepth 100000 in
theorem am_d136 : lw_tbl[1126]? = some (am_cd am_r136) := by rfl
set_option maxRecDepth 100000 in
theorem am_d137 : lw_tbl[1119]? = some (am_cd am_r137) := by rfl
set_option maxRecDepth 100000 in
theorem am_d138 : lw_tbl[1130]? = some (am_cd am_r138) := by rfl
set_option maxRecDepth 100000 in
theorem am_d139 : lw_tbl[1142]? = some (am_cd am_r139) := by rfl
set_option maxRecDepth 100000 in
theorem am_d140 : lw_tbl[1138]? = some (am_cd am_r140) := by rfl
set_option maxRecDepth 100000 in
theorem am_d141 : lw_tbl[1115]? = some (am_cd am_r141) := by rfl
set_option maxRecDepth 100000 in
theorem am_d142 : lw_tbl[1134]? = some (am_cd am_r142) := by rfl
set_option maxRecDepth 100000 in
theorem am_d143 : lw_tbl[1150]? = some (am_cd am_r143) := by rfl
set_option maxRecDepth 100000 in
theorem am_d144 : lw_tbl[1146]? = some (am_cd am_r144) := by rfl
set_option maxRecDepth 100000 in
theorem am_d145 : lw_tbl[1111]? = some (am_cd am_r145) := by rfl
set_option maxRecDepth 100000 in
theorem am_d146 : lw_tbl[1107]? = some (am_cd am_r146) := by rfl
set_option maxRecDepth 100000 in
theorem am_d147 : lw_tbl[1103]? = some (am_cd am_r147) := by rfl
set_option maxRecDepth 100000 in
theorem am_d148 : lw_tbl[1154]? = some (am_cd am_r148) := by rfl
set_option maxRecDepth 100000 in
theorem am_d149 : lw_tbl[1162]? = some (am_cd am_r149) := by rfl
set_option maxRecDepth 100000 in
theorem am_d150 : lw_tbl[1158]? = some (am_cd am_r150) := by rfl
set_option maxRecDepth 100000 in
theorem am_d151 : lw_tbl[1166]? = some (am_cd am_r151) := by rfl
set_option maxRecDepth 100000 in
theorem am_d152 : lw_tbl[1174]? = some (am_cd am_r152) := by rfl
set_option maxRecDepth 100000 in
theorem am_d153 : lw_tbl[1277]? = some (am_cd am_r153) := by rfl
set_option maxRecDepth 100000 in
theorem am_d154 : lw_tbl[1186]? = some (am_cd am_r154) := by rfl
set_option maxRecDepth 100000 in
theorem am_d155 : lw_tbl[1182]? = some (am_cd am_r155) := by rfl
set_option maxRecDepth 100000 in
theorem am_d156 : lw_tbl[1193]? = some (am_cd am_r156) := by rfl
set_option maxRecDepth 100000 in
theorem am_d157 : lw_tbl[1197]? = some (am_cd am_r157) := by rfl
set_option maxRecDepth 100000 in
theorem am_d158 : lw_tbl[1201]? = some (am_cd am_r158) := by rfl
set_option maxRecDepth 100000 in
theorem am_d159 : lw_tbl[1211]? = some (am_cd am_r159) := by rfl
set_option maxRecDepth 100000 in
theorem am_d160 : lw_tbl[1215]? = some (am_cd am_r160) := by rfl
set_option maxRecDepth 100000 in
theorem am_d161 : lw_tbl[1219]? = some (am_cd am_r161) := by rfl
set_option maxRecDepth 100000 in
theorem am_d162 : lw_tbl[1178]? = some (am_cd am_r162) := by rfl
set_option maxRecDepth 100000 in
theorem am_d163 : lw_tbl[1170]? = some (am_cd am_r163) := by rfl
set_option maxRecDepth 100000 in
theorem am_d164 : lw_tbl[1241]? = some (am_cd am_r164) := by rfl
set_option maxRecDepth 100000 in
theorem am_d165 : lw_tbl[1249]? = some (am_cd am_r165) := by rfl
set_option maxRecDepth 100000 in
theorem am_d166 : lw_tbl[1245]? = some (am_cd am_r166) := by rfl
set_option maxRecDepth 100000 in
theorem am_d167 : lw_tbl[1261]? = some (am_cd am_r167) := by rfl
set_option maxRecDepth 100000 in
theorem am_d168 : lw_tbl[1257]? = some (am_cd am_r168) := by rfl
set_option maxRecDepth 100000 in
theorem am_d169 : lw_tbl[1253]? = some (am_cd am_r169) := by rfl
set_option maxRecDepth 100000 in
theorem am_d170 : lw_tbl[1269]? = some (am_cd am_r170) := by rfl
set_option maxRecDepth 100000 in
theorem am_d171 : lw_tbl[1265]? = some (am_cd am_r171) := by rfl
set_option maxRecDepth 100000 in
theorem am_d172 : lw_tbl[1230]? = some (am_cd am_r172) := by rfl
set_option maxRecDepth 100000 in
theorem am_d173 : lw_tbl[1234]? = some (am_cd am_r173) := by rfl
set_option maxRecDepth 100000 in
theorem am_d174 : lw_tbl[1227]? = some (am_cd am_r174) := by rfl
set_option maxRecDepth 100000 in
theorem am_d175 : lw_tbl[1223]? = some (am_cd am_r175) := by rfl
set_option maxRecDepth 100000 in
theorem am_d176 : lw_tbl[1298]? = some (am_cd am_r176) := by rfl
set_option maxRecDepth 100000 in
theorem am_d177 : lw_tbl[1281]? = some (am_cd am_r177) := by rfl
set_option maxRecDepth 100000 in
theorem am_d178 : lw_tbl[1273]? = some (am_cd am_r178) := by rfl
set_option maxRecDepth 100000 in
theorem am_d179 : lw_tbl[1302]? = some (am_cd am_r179) := by rfl
set_option maxRecDepth 100000 in
theorem am_d180 : lw_tbl[1306]? = some (am_cd am_r180) := by rfl
set_option maxRecDepth 100000 in
theorem am_d181 : lw_tbl[1310]? = some (am_cd am_r181) := by rfl
set_option maxRecDepth 100000 in
theorem am_d182 : lw_tbl[1314]? = some (am_cd am_r182) := by rfl
set_option maxRecDepth 100000 in
theorem am_d183 : lw_tbl[1318]? = some (am_cd am_r183) := by rfl
set_option maxRecDepth 100000 in
theorem am_d184 : lw_tbl[1322]? = some (am_cd am_r184) := by rfl
set_option maxRecDepth 100000 in
theorem am_d185 : lw_tbl[1330]? = some (am_cd am_r185) := by rfl
set_option maxRecDepth 100000 in
theorem am_d186 : lw_tbl[1326]? = some (am_cd am_r186) := by rfl
set_option maxRecDepth 100000 in
theorem am_d187 : lw_tbl[1338]? = some (am_cd am_r187) := by rfl
set_option maxRecDepth 100000 in
theorem am_d188 : lw_tbl[1334]? = some (am_cd am_r188) := by rfl
set_option maxRecDepth 100000 in
theorem am_d189 : lw_tbl[1350]? = some (am_cd am_r189) := by rfl
set_option maxRecDepth 100000 in
theorem am_d190 : lw_tbl[1354]? = some (am_cd am_r190) := by rfl
set_option maxRecDepth 100000 in
theorem am_d191 : lw_tbl[1358]? = some (am_cd am_r191) := by rfl
set_option maxRecDepth 100000 in
theorem am_d192 : lw_tbl[1346]? = some (am_cd am_r192) := by rfl
set_option maxRecDepth 100000 in
theorem am_d193 : lw_tbl[1342]? = some (am_cd am_r193) := by rfl
set_option maxRecDepth 100000 in
theorem am_d194 : lw_tbl[1362]? = some (am_cd am_r194) := by rfl
set_option maxRecDepth 100000 in
theorem am_d195 : lw_tbl[1366]? = some (am_cd am_r195) := by rfl
set_option maxRecDepth 100000 in
theorem am_d196 : lw_tbl[1289]? = some (am_cd am_r196) := by rfl
set_option maxRecDepth 100000 in
theorem am_d197 : lw_tbl[1285]? = some (am_cd am_r197) := by rfl
set_option maxRecDepth 100000 in
theorem am_d198 : lw_tbl[1293]? = some (am_cd am_r198) := by rfl
set_option maxRecDepth 100000 in
theorem am_d199 : lw_tbl[1378]? = some (am_cd am_r199) := by rfl
set_option maxRecDepth 100000 in
theorem am_d200 : lw_tbl[1374]? = some (am_cd am_r200) := by rfl
set_option maxRecDepth 100000 in
theorem am_d201 : lw_tbl[1370]? = some (am_cd am_r201) := by rfl
set_option maxRecDepth 100000 in
theorem am_d202 : lw_tbl[1390]? = some (am_cd am_r202) := by rfl
set_option maxRecDepth 100000 in
theorem am_d203 : lw_tbl[1386]? = some (am_cd am_r203) := by rfl
set_option maxRecDepth 100000 in
theorem am_d204 : lw_tbl[1394]? = some (am_cd am_r204) := by rfl
set_option maxRecDepth 100000 in
theorem am_d205 : lw_tbl[1406]? = some (am_cd am_r205) := by rfl
set_option maxRecDepth 100000 in
theorem am_d206 : lw_tbl[1410]? = some (am_cd am_r206) := by rfl
set_option maxRecDepth 100000 in
theorem am_d207 : lw_tbl[1414]? = some (am_cd am_r207) := by rfl
set_option maxRecDepth 100000 in
theorem am_d208 : lw_tbl[1418]? = some (am_cd am_r208) := by rfl
set_option maxRecDepth 100000 in
theorem am_d209 : lw_tbl[1422]? = some (am_cd am_r209) := by rfl
set_option maxRecDepth 100000 in
theorem am_d210 : lw_tbl[1402]? = some (am_cd am_r210) := by rfl
set_option maxRecDepth 100000 in
theorem am_d211 : lw_tbl[1398]? = some (am_cd am_r211) := by rfl
set_option maxRecDepth 100000 in
theorem am_d212 : lw_tbl[1432]? = some (am_cd am_r212) := by rfl
set_option maxRecDepth 100000 in
theorem am_d213 : lw_tbl[1437]? = some (am_cd am_r213) := by rfl
set_option maxRecDepth 100000 in
theorem am_d214 : lw_tbl[1426]? = some (am_cd am_r214) := by rfl
set_option maxRecDepth 100000 in
theorem am_d215 : lw_tbl[573]? = some (am_cd am_r215) := by rfl
set_option maxRecDepth 100000 in
theorem am_d216 : lw_tbl[629]? = some (am_cd am_r216) := by rfl
set_option maxRecDepth 100000 in
theorem am_d217 : lw_tbl[479]? = some (am_cd am_r217) := by rfl
set_option maxRecDepth 100000 in
theorem am_d218 : lw_tbl[514]? = some (am_cd am_r218) := by rfl
