def eg_chk (q : eg_MI × List (Nat × Instr × Nat)) : Bool := q.2.all (fun e => decide (decode q.1.2.1 e.1 = .ok e.2))
theorem eg_k0 : eg_chk (eg_i0, eg_c0) = true := by decide +kernel
theorem eg_k1 : eg_chk (eg_i1, eg_c1) = true := by decide +kernel
theorem eg_k2 : eg_chk (eg_i2, eg_c2) = true := by decide +kernel
theorem eg_k3 : eg_chk (eg_i3, eg_c3) = true := by decide +kernel
theorem eg_k4 : eg_chk (eg_i4, eg_c4) = true := by decide +kernel
theorem eg_k5 : eg_chk (eg_i5, eg_c5) = true := by decide +kernel
theorem eg_k6 : eg_chk (eg_i6, eg_c6) = true := by decide +kernel
theorem eg_k7 : eg_chk (eg_i7, eg_c7) = true := by decide +kernel
theorem eg_k8 : eg_chk (eg_i8, eg_c8) = true := by decide +kernel
theorem eg_k9 : eg_chk (eg_i9, eg_c9) = true := by decide +kernel
theorem eg_k10 : eg_chk (eg_i10, eg_c10) = true := by decide +kernel
theorem eg_k11 : eg_chk (eg_i11, eg_c11) = true := by decide +kernel
theorem eg_k12 : eg_chk (eg_i12, eg_c12) = true := by decide +kernel
theorem eg_k13 : eg_chk (eg_i13, eg_c13) = true := by decide +kernel
theorem eg_k14 : eg_chk (eg_i14, eg_c14) = true := by decide +kernel
theorem eg_k15 : eg_chk (eg_i15, eg_c15) = true := by decide +kernel
theorem eg_k16 : eg_chk (eg_i16, eg_c16) = true := by decide +kernel
theorem eg_k17 : eg_chk (eg_i17, eg_c17) = true := by decide +kernel
theorem eg_k18 : eg_chk (eg_i18, eg_c18) = true := by decide +kernel
theorem eg_k19 : eg_chk (eg_i19, eg_c19) = true := by decide +kernel
theorem eg_k20 : eg_chk (eg_i20, eg_c20) = true := by decide +kernel
theorem eg_k21 : eg_chk (eg_i21, eg_c21) = true := by decide +kernel
theorem eg_k22 : eg_chk (eg_i22, eg_c22) = true := by decide +kernel
theorem eg_k23 : eg_chk (eg_i23, eg_c23) = true := by decide +kernel
theorem eg_k24 : eg_chk (eg_i24, eg_c24) = true := by decide +kernel
theorem eg_k25 : eg_chk (eg_i25, eg_c25) = true := by decide +kernel
theorem eg_k26 : eg_chk (eg_i26, eg_c26) = true := by decide +kernel
theorem eg_k27 : eg_chk (eg_i27, eg_c27) = true := by decide +kernel
theorem eg_k28 : eg_chk (eg_i28, eg_c28) = true := by decide +kernel
theorem eg_k29 : eg_chk (eg_i29, eg_c29) = true := by decide +kernel
theorem eg_k30 : eg_chk (eg_i30, eg_c30) = true := by decide +kernel
theorem eg_k31 : eg_chk (eg_i31, eg_c31) = true := by decide +kernel
theorem eg_k32 : eg_chk (eg_i32, eg_c32) = true := by decide +kernel
theorem eg_k33 : eg_chk (eg_i33, eg_c33) = true := by decide +kernel
theorem eg_k34 : eg_chk (eg_i34, eg_c34) = true := by decide +kernel
theorem eg_k35 : eg_chk (eg_i35, eg_c35) = true := by decide +kernel
theorem eg_k36 : eg_chk (eg_i36, eg_c36) = true := by decide +kernel
theorem eg_k37 : eg_chk (eg_i37, eg_c37) = true := by decide +kernel
theorem eg_k38 : eg_chk (eg_i38, eg_c38) = true := by decide +kernel
theorem eg_k39 : eg_chk (eg_i39, eg_c39) = true := by decide +kernel
theorem eg_k40 : eg_chk (eg_i40, eg_c40) = true := by decide +kernel
theorem eg_k41 : eg_chk (eg_i41, eg_c41) = true := by decide +kernel
theorem eg_k42 : eg_chk (eg_i42, eg_c42) = true := by decide +kernel
theorem eg_k43 : eg_chk (eg_i43, eg_c43) = true := by decide +kernel
theorem eg_k44 : eg_chk (eg_i44, eg_c44) = true := by decide +kernel
theorem eg_k45 : eg_chk (eg_i45, eg_c45) = true := by decide +kernel
theorem eg_k46 : eg_chk (eg_i46, eg_c46) = true := by decide +kernel
theorem eg_k47 : eg_chk (eg_i47, eg_c47) = true := by decide +kernel
theorem eg_k48 : eg_chk (eg_i48, eg_c48) = true := by decide +kernel
theorem eg_k49 : eg_chk (eg_i49, eg_c49) = true := by decide +kernel
theorem eg_k50 : eg_chk (eg_i50, eg_c50) = true := by decide +kernel
theorem eg_k51 : eg_chk (eg_i51, eg_c51) = true := by decide +kernel
theorem eg_k52 : eg_chk (eg_i52, eg_c52) = true := by decide +kernel
theorem eg_k53 : eg_chk (eg_i53, eg_c53) = true := by decide +kernel
theorem eg_k54 : eg_chk (eg_i54, eg_c54) = true := by decide +kernel
theorem eg_k55 : eg_chk (eg_i55, eg_c55) = true := by decide +kernel
theorem eg_k56 : eg_chk (eg_i56, eg_c56) = true := by decide +kernel
theorem eg_k57 : eg_chk (eg_i57, eg_c57) = true := by decide +kernel
theorem eg_k58 : eg_chk (eg_i58, eg_c58) = true := by decide +kernel
theorem eg_k59 : eg_chk (eg_i59, eg_c59) = true := by decide +kernel
theorem eg_k60 : eg_chk (eg_i60, eg_c60) = true := by decide +kernel
theorem eg_k61 : eg_chk (eg_i61, eg_c61) = true := by decide +kernel
theorem eg_k62 : eg_chk (eg_i62, eg_c62) = true := by decide +kernel
theorem eg_k63 : eg_chk (eg_i63, eg_c63) = true := by decide +kernel
theorem eg_k64 : eg_chk (eg_i64, eg_c64) = true := by decide +kernel
theorem eg_k65 : eg_chk (eg_i65, eg_c65) = true := by decide +kernel
theorem eg_k66 : eg_chk (eg_i66, eg_c66) = true := by decide +kernel
theorem eg_k67 : eg_chk (eg_i67, eg_c67) = true := by decide +kernel
theorem eg_k68 : eg_chk (eg_i68, eg_c68) = true := by decide +kernel
theorem eg_k69 : eg_chk (eg_i69, eg_c69) = true := by decide +kernel
theorem eg_k70 : eg_chk (eg_i70, eg_c70) = true := by decide +kernel
theorem eg_k71 : eg_chk (eg_i71, eg_c71) = true := by decide +kernel
theorem eg_k72 : eg_chk (eg_i72, eg_c72) = true := by decide +kernel
theorem eg_k73 : eg_chk (eg_i73, eg_c73) = true := by decide +kernel
theorem eg_k74 : eg_chk (eg_i74, eg_c74) = true := by decide +kernel
theorem eg_k75 : eg_chk (eg_i75, eg_c75) = true := by decide +kernel
theorem eg_k76 : eg_chk (eg_i76, eg_c76) = true := by decide +kernel
theorem eg_k77 : eg_chk (eg_i77, eg_c77) = true := by decide +kernel
theorem eg_k78 : eg_chk (eg_i78, eg_c78) = true := by decide +kernel
theorem eg_k79 : eg_chk (eg_i79, eg_c79) = true := by decide +kernel
theorem eg_k80 : eg_chk (eg_i80, eg_c80) = true := by decide +kernel
theorem eg_k81 : eg_chk (eg_i81, eg_c81) = true := by decide +kernel
theorem eg_k82 : eg_chk (eg_i82, eg_c82) = true := by decide +kernel
theorem eg_k83 : eg_chk (eg_i83, eg_c83) = true := by decide +kernel
theorem eg_k84 : eg_chk (eg_i84, eg_c84) = true := by decide +kernel
theorem eg_k85 : eg_chk (eg_i85, eg_c85) = true := by decide +kernel
theorem eg_k86 : eg_chk (eg_i86, eg_c86) = true := by decide +kernel
theorem eg_k87 : eg_chk (eg_i87, eg_c87) = true := by decide +kernel
theorem eg_k88 : eg_chk (eg_i88, eg_c88) = true := by decide +kernel
theorem eg_k89 : eg_chk (eg_i89, eg_c89) = true := by decide +kernel
theorem eg_k90 : eg_chk (eg_i90, eg_c90) = true := by decide +kernel
theorem eg_k91 : eg_chk (eg_i91, eg_c91) = true := by decide +kernel
theorem eg_k92 : eg_chk (eg_i92, eg_c92) = true := by decide +kernel
theorem eg_k93 : eg_chk (eg_i93, eg_c93) = true := by decide +kernel
theorem eg_k94 : eg_chk (eg_i94, eg_c94) = true := by decide +kernel
theorem eg_k95 : eg_chk (eg_i95, eg_c95) = true := by decide +kernel
theorem eg_k96 : eg_chk (eg_i96, eg_c96) = true := by decide +kernel
theorem eg_k97 : eg_chk (eg_i97, eg_c97) = true := by decide +kernel
theorem eg_k98 : eg_chk (eg_i98, eg_c98) = true := by decide +kernel
theorem eg_k99 : eg_chk (eg_i99, eg_c99) = true := by decide +kernel
theorem eg_k100 : eg_chk (eg_i100, eg_c100) = true := by decide +kernel
theorem eg_k101 : eg_chk (eg_i101, eg_c101) = true := by decide +kernel
theorem eg_k102 : eg_chk (eg_i102, eg_c102) = true := by decide +kernel
theorem eg_k103 : eg_chk (eg_i103, eg_c103) = true := by decide +kernel
theorem eg_k104 : eg_chk (eg_i104, eg_c104) = true := by decide +kernel
theorem eg_k105 : eg_chk (eg_i105, eg_c105) = true := by decide +kernel
theorem eg_k106 : eg_chk (eg_i106, eg_c106) = true := by decide +kernel
theorem eg_k107 : eg_chk (eg_i107, eg_c107) = true := by decide +kernel
theorem eg_k108 : eg_chk (eg_i108, eg_c108) = true := by decide +kernel
theorem eg_k109 : eg_chk (eg_i109, eg_c109) = true := by decide +kernel
theorem eg_k110 : eg_chk (eg_i110, eg_c110) = true := by decide +kernel
theorem eg_k111 : eg_chk (eg_i111, eg_c111) = true := by decide +kernel
theorem eg_k112 : eg_chk (eg_i112, eg_c112) = true := by decide +kernel
theorem eg_k113 : eg_chk (eg_i113, eg_c113) = true := by decide +kernel
theorem eg_k114 : eg_chk (eg_i114, eg_c114) = true := by decide +kernel
theorem eg_k115 : eg_chk (eg_i115, eg_c115) = true := by decide +kernel
theorem eg_k116 : eg_chk (eg_i116, eg_c116) = true := by decide +kernel
theorem eg_k117 : eg_chk (eg_i117, eg_c117) = true := by decide +kernel
theorem eg_k118 : eg_chk (eg_i118, eg_c118) = true := by decide +kernel
theorem eg_k119 : eg_chk (eg_i119, eg_c119) = true := by decide +kernel
theorem eg_k120 : eg_chk (eg_i120, eg_c120) = true := by decide +kernel
theorem eg_k121 : eg_chk (eg_i121, eg_c121) = true := by decide +kernel
theorem eg_k122 : eg_chk (eg_i122, eg_c122) = true := by decide +kernel
theorem eg_k123 : eg_chk (eg_i123, eg_c123) = true := by decide +kernel
theorem eg_k124 : eg_chk (eg_i124, eg_c124) = true := by decide +kernel
theorem eg_k125 : eg_chk (eg_i125, eg_c125) = true := by decide +kernel
theorem eg_k126 : eg_chk (eg_i126, eg_c126) = true := by decide +kernel
theorem eg_k127 : eg_chk (eg_i127, eg_c127) = true := by decide +kernel
theorem eg_k128 : eg_chk (eg_i128, eg_c128) = true := by decide +kernel
theorem eg_k129 : eg_chk (eg_i129, eg_c129) = true := by decide +kernel
theorem eg_k130 : eg_chk (eg_i130, eg_c130) = true := by decide +kernel
theorem eg_k131 : eg_chk (eg_i131, eg_c131) = true := by decide +kernel
theorem eg_k132 : eg_chk (eg_i132, eg_c132) = true := by decide +kernel
theorem eg_k133 : eg_chk (eg_i133, eg_c133) = true := by decide +kernel
theorem eg_k134 : eg_chk (eg_i134, eg_c134) = true := by decide +kernel
theorem eg_k135 : eg_chk (eg_i135, eg_c135) = true := by decide +kernel
theorem eg_k136 : eg_chk (eg_i136, eg_c136) = true := by decide +kernel
theorem eg_k137 : eg_chk (eg_i137, eg_c137) = true := by decide +kernel
theorem eg_k138 : eg_chk (eg_i138, eg_c138) = true := by decide +kernel
theorem eg_k139 : eg_chk (eg_i139, eg_c139) = true := by decide +kernel
theorem eg_k140 : eg_chk (eg_i140, eg_c140) = true := by decide +kernel
theorem eg_k141 : eg_chk (eg_i141, eg_c141) = true := by decide +kernel
theorem eg_k142 : eg_chk (eg_i142, eg_c142) = true := by decide +kernel
theorem eg_k143 : eg_chk (eg_i143, eg_c143) = true := by decide +kernel
theorem eg_k144 : eg_chk (eg_i144, eg_c144) = true := by decide +kernel
theorem eg_k145 : eg_chk (eg_i145, eg_c145) = true := by decide +kernel
theorem eg_k146 : eg_chk (eg_i146, eg_c146) = true := by decide +kernel
theorem eg_k147 : eg_chk (eg_i147, eg_c147) = true := by decide +kernel
theorem eg_k148 : eg_chk (eg_i148, eg_c148) = true := by decide +kernel
theorem eg_k149 : eg_chk (eg_i149, eg_c149) = true := by decide +kernel
theorem eg_k150 : eg_chk (eg_i150, eg_c150) = true := by decide +kernel
theorem eg_k151 : eg_chk (eg_i151, eg_c151) = true := by decide +kernel
theorem eg_k152 : eg_chk (eg_i152, eg_c152) = true := by decide +kernel
theorem eg_k153 : eg_chk (eg_i153, eg_c153) = true := by decide +kernel
theorem eg_k154 : eg_chk (eg_i154, eg_c154) = true := by decide +kernel
theorem eg_k155 : eg_chk (eg_i155, eg_c155) = true := by decide +kernel
theorem eg_k156 : eg_chk (eg_i156, eg_c156) = true := by decide +kernel
theorem eg_k157 : eg_chk (eg_i157, eg_c157) = true := by decide +kernel
theorem eg_k158 : eg_chk (eg_i158, eg_c158) = true := by decide +kernel
theorem eg_k159 : eg_chk (eg_i159, eg_c159) = true := by decide +kernel
theorem eg_k160 : eg_chk (eg_i160, eg_c160) = true := by decide +kernel
theorem eg_k161 : eg_chk (eg_i161, eg_c161) = true := by decide +kernel
theorem eg_k162 : eg_chk (eg_i162, eg_c162) = true := by decide +kernel
theorem eg_k163 : eg_chk (eg_i163, eg_c163) = true := by decide +kernel
theorem eg_k164 : eg_chk (eg_i164, eg_c164) = true := by decide +kernel
theorem eg_k165 : eg_chk (eg_i165, eg_c165) = true := by decide +kernel
theorem eg_k166 : eg_chk (eg_i166, eg_c166) = true := by decide +kernel
theorem eg_k167 : eg_chk (eg_i167, eg_c167) = true := by decide +kernel
theorem eg_k168 : eg_chk (eg_i168, eg_c168) = true := by decide +kernel
theorem eg_k169 : eg_chk (eg_i169, eg_c169) = true := by decide +kernel
theorem eg_k170 : eg_chk (eg_i170, eg_c170) = true := by decide +kernel
theorem eg_k171 : eg_chk (eg_i171, eg_c171) = true := by decide +kernel
theorem eg_k172 : eg_chk (eg_i172, eg_c172) = true := by decide +kernel
theorem eg_k173 : eg_chk (eg_i173, eg_c173) = true := by decide +kernel
theorem eg_k174 : eg_chk (eg_i174, eg_c174) = true := by decide +kernel
theorem eg_k175 : eg_chk (eg_i175, eg_c175) = true := by decide +kernel
theorem eg_k176 : eg_chk (eg_i176, eg_c176) = true := by decide +kernel
theorem eg_k177 : eg_chk (eg_i177, eg_c177) = true := by decide +kernel
theorem eg_k178 : eg_chk (eg_i178, eg_c178) = true := by decide +kernel
theorem eg_k179 : eg_chk (eg_i179, eg_c179) = true := by decide +kernel
theorem eg_k180 : eg_chk (eg_i180, eg_c180) = true := by decide +kernel
theorem eg_k181 : eg_chk (eg_i181, eg_c181) = true := by decide +kernel
theorem eg_k182 : eg_chk (eg_i182, eg_c182) = true := by decide +kernel
theorem eg_k183 : eg_chk (eg_i183, eg_c183) = true := by decide +kernel
theorem eg_k184 : eg_chk (eg_i184, eg_c184) = true := by decide +kernel
theorem eg_k185 : eg_chk (eg_i185, eg_c185) = true := by decide +kernel
theorem eg_k186 : eg_chk (eg_i186, eg_c186) = true := by decide +kernel
theorem eg_k187 : eg_chk (eg_i187, eg_c187) = true := by decide +kernel
theorem eg_k188 : eg_chk (eg_i188, eg_c188) = true := by decide +kernel
theorem eg_k189 : eg_chk (eg_i189, eg_c189) = true := by decide +kernel
theorem eg_k190 : eg_chk (eg_i190, eg_c190) = true := by decide +kernel
theorem eg_k191 : eg_chk (eg_i191, eg_c191) = true := by decide +kernel
theorem eg_k192 : eg_chk (eg_i192, eg_c192) = true := by decide +kernel
theorem eg_k193 : eg_chk (eg_i193, eg_c193) = true := by decide +kernel
theorem eg_k194 : eg_chk (eg_i194, eg_c194) = true := by decide +kernel
theorem eg_k195 : eg_chk (eg_i195, eg_c195) = true := by decide +kernel
theorem eg_k196 : eg_chk (eg_i196, eg_c196) = true := by decide +kernel
theorem eg_k197 : eg_chk (eg_i197, eg_c197) = true := by decide +kernel
theorem eg_k198 : eg_chk (eg_i198, eg_c198) = true := by decide +kernel
theorem eg_k199 : eg_chk (eg_i199, eg_c199) = true := by decide +kernel
theorem eg_k200 : eg_chk (eg_i200, eg_c200) = true := by decide +kernel
theorem eg_k201 : eg_chk (eg_i201, eg_c201) = true := by decide +kernel
theorem eg_k202 : eg_chk (eg_i202, eg_c202) = true := by decide +kernel
theorem eg_k203 : eg_chk (eg_i203, eg_c203) = true := by decide +kernel
theorem eg_k204 : eg_chk (eg_i204, eg_c204) = true := by decide +kernel
theorem eg_k205 : eg_chk (eg_i205, eg_c205) = true := by decide +kernel
theorem eg_k206 : eg_chk (eg_i206, eg_c206) = true := by decide +kernel
theorem eg_k207 : eg_chk (eg_i207, eg_c207) = true := by decide +kernel
theorem eg_k208 : eg_chk (eg_i208, eg_c208) = true := by decide +kernel
theorem eg_k209 : eg_chk (eg_i209, eg_c209) = true := by decide +kernel
theorem eg_k210 : eg_chk (eg_i210, eg_c210) = true := by decide +kernel
theorem eg_k211 : eg_chk (eg_i211, eg_c211) = true := by decide +kernel
theorem eg_k212 : eg_chk (eg_i212, eg_c212) = true := by decide +kernel
theorem eg_k213 : eg_chk (eg_i213, eg_c213) = true := by decide +kernel
theorem eg_k214 : eg_chk (eg_i214, eg_c214) = true := by decide +kernel
theorem eg_k215 : eg_chk (eg_i215, eg_c215) = true := by decide +kernel
theorem eg_k216 : eg_chk (eg_i216, eg_c216) = true := by decide +kernel
theorem eg_k217 : eg_chk (eg_i217, eg_c217) = true := by decide +kernel
theorem eg_k218 : eg_chk (eg_i218, eg_c218) = true := by decide +kernel
theorem eg_k219 : eg_chk (eg_i219, eg_c219) = true := by decide +kernel
theorem eg_k220 : eg_chk (eg_i220, eg_c220) = true := by decide +kernel
theorem eg_k221 : eg_chk (eg_i221, eg_c221) = true := by decide +kernel
theorem eg_k222 : eg_chk (eg_i222, eg_c222) = true := by decide +kernel
theorem eg_k223 : eg_chk (eg_i223, eg_c223) = true := by decide +kernel
theorem eg_k224 : eg_chk (eg_i224, eg_c224) = true := by decide +kernel
theorem eg_k225 : eg_chk (eg_i225, eg_c225) = true := by decide +kernel
theorem eg_k226 : eg_chk (eg_i226, eg_c226) = true := by decide +kernel
theorem eg_k227 : eg_chk (eg_i227, eg_c227) = true := by decide +kernel
theorem eg_k228 : eg_chk (eg_i228, eg_c228) = true := by decide +kernel
theorem eg_k229 : eg_chk (eg_i229, eg_c229) = true := by decide +kernel
theorem eg_k230 : eg_chk (eg_i230, eg_c230) = true := by decide +kernel
theorem eg_k231 : eg_chk (eg_i231, eg_c231) = true := by decide +kernel
theorem eg_k232 : eg_chk (eg_i232, eg_c232) = true := by decide +kernel
theorem eg_k233 : eg_chk (eg_i233, eg_c233) = true := by decide +kernel
theorem eg_k234 : eg_chk (eg_i234, eg_c234) = true := by decide +kernel
theorem eg_k235 : eg_chk (eg_i235, eg_c235) = true := by decide +kernel
theorem eg_k236 : eg_chk (eg_i236, eg_c236) = true := by decide +kernel
theorem eg_k237 : eg_chk (eg_i237, eg_c237) = true := by decide +kernel
theorem eg_k238 : eg_chk (eg_i238, eg_c238) = true := by decide +kernel
theorem eg_k239 : eg_chk (eg_i239, eg_c239) = true := by decide +kernel
theorem eg_k240 : eg_chk (eg_i240, eg_c240) = true := by decide +kernel
theorem eg_k241 : eg_chk (eg_i241, eg_c241) = true := by decide +kernel
theorem eg_k242 : eg_chk (eg_i242, eg_c242) = true := by decide +kernel
theorem eg_k243 : eg_chk (eg_i243, eg_c243) = true := by decide +kernel
theorem eg_k244 : eg_chk (eg_i244, eg_c244) = true := by decide +kernel
theorem eg_k245 : eg_chk (eg_i245, eg_c245) = true := by decide +kernel
theorem eg_k246 : eg_chk (eg_i246, eg_c246) = true := by decide +kernel
theorem eg_k247 : eg_chk (eg_i247, eg_c247) = true := by decide +kernel
theorem eg_k248 : eg_chk (eg_i248, eg_c248) = true := by decide +kernel
theorem eg_k249 : eg_chk (eg_i249, eg_c249) = true := by decide +kernel
theorem eg_k250 : eg_chk (eg_i250, eg_c250) = true := by decide +kernel
theorem eg_k251 : eg_chk (eg_i251, eg_c251) = true := by decide +kernel
theorem eg_k252 : eg_chk (eg_i252, eg_c252) = true := by decide +kernel
theorem eg_k253 : eg_chk (eg_i253, eg_c253) = true := by decide +kernel
theorem eg_k254 : eg_chk (eg_i254, eg_c254) = true := by decide +kernel
theorem eg_k255 : eg_chk (eg_i255, eg_c255) = true := by decide +kernel
theorem eg_k256 : eg_chk (eg_i256, eg_c256) = true := by decide +kernel
theorem eg_k257 : eg_chk (eg_i257, eg_c257) = true := by decide +kernel
theorem eg_k258 : eg_chk (eg_i258, eg_c258) = true := by decide +kernel
theorem eg_k259 : eg_chk (eg_i259, eg_c259) = true := by decide +kernel
theorem eg_k260 : eg_chk (eg_i260, eg_c260) = true := by decide +kernel
theorem eg_k261 : eg_chk (eg_i261, eg_c261) = true := by decide +kernel
theorem eg_k262 : eg_chk (eg_i262, eg_c262) = true := by decide +kernel
theorem eg_k263 : eg_chk (eg_i263, eg_c263) = true := by decide +kernel
theorem eg_k264 : eg_chk (eg_i264, eg_c264) = true := by decide +kernel
theorem eg_k265 : eg_chk (eg_i265, eg_c265) = true := by decide +kernel
theorem eg_k266 : eg_chk (eg_i266, eg_c266) = true := by decide +kernel
theorem eg_k267 : eg_chk (eg_i267, eg_c267) = true := by decide +kernel
theorem eg_k268 : eg_chk (eg_i268, eg_c268) = true := by decide +kernel
theorem eg_k269 : eg_chk (eg_i269, eg_c269) = true := by decide +kernel
theorem eg_k270 : eg_chk (eg_i270, eg_c270) = true := by decide +kernel
theorem eg_k271 : eg_chk (eg_i271, eg_c271) = true := by decide +kernel
theorem eg_k272 : eg_chk (eg_i272, eg_c272) = true := by decide +kernel
theorem eg_k273 : eg_chk (eg_i273, eg_c273) = true := by decide +kernel
theorem eg_k274 : eg_chk (eg_i274, eg_c274) = true := by decide +kernel
theorem eg_k275 : eg_chk (eg_i275, eg_c275) = true := by decide +kernel
theorem eg_k276 : eg_chk (eg_i276, eg_c276) = true := by decide +kernel
theorem eg_k277 : eg_chk (eg_i277, eg_c277) = true := by decide +kernel
theorem eg_k278 : eg_chk (eg_i278, eg_c278) = true := by decide +kernel
theorem eg_k279 : eg_chk (eg_i279, eg_c279) = true := by decide +kernel
theorem eg_k280 : eg_chk (eg_i280, eg_c280) = true := by decide +kernel
theorem eg_k281 : eg_chk (eg_i281, eg_c281) = true := by decide +kernel
theorem eg_k282 : eg_chk (eg_i282, eg_c282) = true := by decide +kernel
theorem eg_k283 : eg_chk (eg_i283, eg_c283) = true := by decide +kernel
theorem eg_k284 : eg_chk (eg_i284, eg_c284) = true := by decide +kernel
theorem eg_k285 : eg_chk (eg_i285, eg_c285) = true := by decide +kernel
theorem eg_k286 : eg_chk (eg_i286, eg_c286) = true := by decide +kernel
theorem eg_k287 : eg_chk (eg_i287, eg_c287) = true := by decide +kernel
theorem eg_k288 : eg_chk (eg_i288, eg_c288) = true := by decide +kernel
theorem eg_k289 : eg_chk (eg_i289, eg_c289) = true := by decide +kernel
theorem eg_k290 : eg_chk (eg_i290, eg_c290) = true := by decide +kernel
theorem eg_k291 : eg_chk (eg_i291, eg_c291) = true := by decide +kernel
theorem eg_k292 : eg_chk (eg_i292, eg_c292) = true := by decide +kernel
theorem eg_k293 : eg_chk (eg_i293, eg_c293) = true := by decide +kernel
theorem eg_k294 : eg_chk (eg_i294, eg_c294) = true := by decide +kernel
theorem eg_k295 : eg_chk (eg_i295, eg_c295) = true := by decide +kernel
theorem eg_k296 : eg_chk (eg_i296, eg_c296) = true := by decide +kernel
theorem eg_k297 : eg_chk (eg_i297, eg_c297) = true := by decide +kernel
theorem eg_k298 : eg_chk (eg_i298, eg_c298) = true := by decide +kernel
theorem eg_k299 : eg_chk (eg_i299, eg_c299) = true := by decide +kernel
theorem eg_k300 : eg_chk (eg_i300, eg_c300) = true := by decide +kernel
theorem eg_k301 : eg_chk (eg_i301, eg_c301) = true := by decide +kernel
theorem eg_k302 : eg_chk (eg_i302, eg_c302) = true := by decide +kernel
theorem eg_k303 : eg_chk (eg_i303, eg_c303) = true := by decide +kernel
theorem eg_k304 : eg_chk (eg_i304, eg_c304) = true := by decide +kernel
theorem eg_k305 : eg_chk (eg_i305, eg_c305) = true := by decide +kernel
theorem eg_k306 : eg_chk (eg_i306, eg_c306) = true := by decide +kernel
theorem eg_k307 : eg_chk (eg_i307, eg_c307) = true := by decide +kernel
theorem eg_k308 : eg_chk (eg_i308, eg_c308) = true := by decide +kernel
theorem eg_k309 : eg_chk (eg_i309, eg_c309) = true := by decide +kernel
theorem eg_k310 : eg_chk (eg_i310, eg_c310) = true := by decide +kernel
theorem eg_k311 : eg_chk (eg_i311, eg_c311) = true := by decide +kernel
theorem eg_k312 : eg_chk (eg_i312, eg_c312) = true := by decide +kernel
theorem eg_k313 : eg_chk (eg_i313, eg_c313) = true := by decide +kernel
theorem eg_k314 : eg_chk (eg_i314, eg_c314) = true := by decide +kernel
theorem eg_k315 : eg_chk (eg_i315, eg_c315) = true := by decide +kernel
theorem eg_K0 : ∀ q ∈ eg_M0, eg_chk q = true := List.forall_mem_cons.mpr ⟨eg_k0, List.forall_mem_cons.mpr ⟨eg_k1, List.forall_mem_cons.mpr ⟨eg_k2, List.forall_mem_cons.mpr ⟨eg_k3, List.forall_mem_cons.mpr ⟨eg_k4, List.forall_mem_cons.mpr ⟨eg_k5, List.forall_mem_cons.mpr ⟨eg_k6, List.forall_mem_cons.mpr ⟨eg_k7, List.forall_mem_cons.mpr ⟨eg_k8, List.forall_mem_cons.mpr ⟨eg_k9, List.forall_mem_cons.mpr ⟨eg_k10, List.forall_mem_cons.mpr ⟨eg_k11, List.forall_mem_cons.mpr ⟨eg_k12, List.forall_mem_cons.mpr ⟨eg_k13, List.forall_mem_cons.mpr ⟨eg_k14, List.forall_mem_cons.mpr ⟨eg_k15, fun _ h => nomatch h⟩⟩⟩⟩⟩⟩⟩⟩⟩⟩⟩⟩⟩⟩⟩⟩
theorem eg_K1 : ∀ q ∈ eg_M1, eg_chk q = true := List.forall_mem_cons.mpr ⟨eg_k16, List.forall_mem_cons.mpr ⟨eg_k17, List.forall_mem_cons.mpr ⟨eg_k18, List.forall_mem_cons.mpr ⟨eg_k19, List.forall_mem_cons.mpr ⟨eg_k20, List.forall_mem_cons.mpr ⟨eg_k21, List.forall_mem_cons.mpr ⟨eg_k22, List.forall_mem_cons.mpr ⟨eg_k23, List.forall_mem_cons.mpr ⟨eg_k24, List.forall_mem_cons.mpr ⟨eg_k25, List.forall_mem_cons.mpr ⟨eg_k26, List.forall_mem_cons.mpr ⟨eg_k27, List.forall_mem_cons.mpr ⟨eg_k28, List.forall_mem_cons.mpr ⟨eg_k29, List.forall_mem_cons.mpr ⟨eg_k30, List.forall_mem_cons.mpr ⟨eg_k31, fun _ h => nomatch h⟩⟩⟩⟩⟩⟩⟩⟩⟩⟩⟩⟩⟩⟩⟩⟩
theorem eg_K2 : ∀ q ∈ eg_M2, eg_chk q = true := List.forall_mem_cons.mpr ⟨eg_k32, List.forall_mem_cons.mpr ⟨eg_k33, List.forall_mem_cons.mpr ⟨eg_k34, List.forall_mem_cons.mpr ⟨eg_k35, List.forall_mem_cons.mpr ⟨eg_k36, List.forall_mem_cons.mpr ⟨eg_k37, List.forall_mem_cons.mpr ⟨eg_k38, List.forall_mem_cons.mpr ⟨eg_k39, List.forall_mem_cons.mpr ⟨eg_k40, List.forall_mem_cons.mpr ⟨eg_k41, List.forall_mem_cons.mpr ⟨eg_k42, List.forall_mem_cons.mpr ⟨eg_k43, List.forall_mem_cons.mpr ⟨eg_k44, List.forall_mem_cons.mpr ⟨eg_k45, List.forall_mem_cons.mpr ⟨eg_k46, List.forall_mem_cons.mpr ⟨eg_k47, fun _ h => nomatch h⟩⟩⟩⟩⟩⟩⟩⟩⟩⟩⟩⟩⟩⟩⟩⟩
theorem eg_K3 : ∀ q ∈ eg_M3, eg_chk q = true := List.forall_mem_cons.mpr ⟨eg_k48, List.forall_mem_cons.mpr ⟨eg_k49, List.forall_mem_cons.mpr ⟨eg_k50, List.forall_mem_cons.mpr ⟨eg_k51, List.forall_mem_cons.mpr ⟨eg_k52, List.forall_mem_cons.mpr ⟨eg_k53, List.forall_mem_cons.mpr ⟨eg_k54, List.forall_mem_cons.mpr ⟨eg_k55, List.forall_mem_cons.mpr ⟨eg_k56, List.forall_mem_cons.mpr ⟨eg_k57, List.forall_mem_cons.mpr ⟨eg_k58, List.forall_mem_cons.mpr ⟨eg_k59, List.forall_mem_cons.mpr ⟨eg_k60, List.forall_mem_cons.mpr ⟨eg_k61, List.forall_mem_cons.mpr ⟨eg_k62, List.forall_mem_cons.mpr ⟨eg_k63, fun _ h => nomatch h⟩⟩⟩⟩⟩⟩⟩⟩⟩⟩⟩⟩⟩⟩⟩⟩
theorem eg_K4 : ∀ q ∈ eg_M4, eg_chk q = true := List.forall_mem_cons.mpr ⟨eg_k64, List.forall_mem_cons.mpr ⟨eg_k65, List.forall_mem_cons.mpr ⟨eg_k66, List.forall_mem_cons.mpr ⟨eg_k67, List.forall_mem_cons.mpr ⟨eg_k68, List.forall_mem_cons.mpr ⟨eg_k69, List.forall_mem_cons.mpr ⟨eg_k70, List.forall_mem_cons.mpr ⟨eg_k71, List.forall_mem_cons.mpr ⟨eg_k72, List.forall_mem_cons.mpr ⟨eg_k73, List.forall_mem_cons.mpr ⟨eg_k74, List.forall_mem_cons.mpr ⟨eg_k75, List.forall_mem_cons.mpr ⟨eg_k76, List.forall_mem_cons.mpr ⟨eg_k77, List.forall_mem_cons.mpr ⟨eg_k78, List.forall_mem_cons.mpr ⟨eg_k79, fun _ h => nomatch h⟩⟩⟩⟩⟩⟩⟩⟩⟩⟩⟩⟩⟩⟩⟩⟩
theorem eg_K5 : ∀ q ∈ eg_M5, eg_chk q = true := List.forall_mem_cons.mpr ⟨eg_k80, List.forall_mem_cons.mpr ⟨eg_k81, List.forall_mem_cons.mpr ⟨eg_k82, List.forall_mem_cons.mpr ⟨eg_k83, List.forall_mem_cons.mpr ⟨eg_k84, List.forall_mem_cons.mpr ⟨eg_k85, List.forall_mem_cons.mpr ⟨eg_k86, List.forall_mem_cons.mpr ⟨eg_k87, List.forall_mem_cons.mpr ⟨eg_k88, List.forall_mem_cons.mpr ⟨eg_k89, List.forall_mem_cons.mpr ⟨eg_k90, List.forall_mem_cons.mpr ⟨eg_k91, List.forall_mem_cons.mpr ⟨eg_k92, List.forall_mem_cons.mpr ⟨eg_k93, List.forall_mem_cons.mpr ⟨eg_k94, List.forall_mem_cons.mpr ⟨eg_k95, fun _ h => nomatch h⟩⟩⟩⟩⟩⟩⟩⟩⟩⟩⟩⟩⟩⟩⟩⟩
theorem eg_K6 : ∀ q ∈ eg_M6, eg_chk q = true := List.forall_mem_cons.mpr ⟨eg_k96, List.forall_mem_cons.mpr ⟨eg_k97, List.forall_mem_cons.mpr ⟨eg_k98, List.forall_mem_cons.mpr ⟨eg_k99, List.forall_mem_cons.mpr ⟨eg_k100, List.forall_mem_cons.mpr ⟨eg_k101, List.forall_mem_cons.mpr ⟨eg_k102, List.forall_mem_cons.mpr ⟨eg_k103, List.forall_mem_cons.mpr ⟨eg_k104, List.forall_mem_cons.mpr ⟨eg_k105, List.forall_mem_cons.mpr ⟨eg_k106, List.forall_mem_cons.mpr ⟨eg_k107, List.forall_mem_cons.mpr ⟨eg_k108, List.forall_mem_cons.mpr ⟨eg_k109, List.forall_mem_cons.mpr ⟨eg_k110, List.forall_mem_cons.mpr ⟨eg_k111, fun _ h => nomatch h⟩⟩⟩⟩⟩⟩⟩⟩⟩⟩⟩⟩⟩⟩⟩⟩
theorem eg_K7 : ∀ q ∈ eg_M7, eg_chk q = true := List.forall_mem_cons.mpr ⟨eg_k112, List.forall_mem_cons.mpr ⟨eg_k113, List.forall_mem_cons.mpr ⟨eg_k114, List.forall_mem_cons.mpr ⟨eg_k115, List.forall_mem_cons.mpr ⟨eg_k116, List.forall_mem_cons.mpr ⟨eg_k117, List.forall_mem_cons.mpr ⟨eg_k118, List.forall_mem_cons.mpr ⟨eg_k119, List.forall_mem_cons.mpr ⟨eg_k120, List.forall_mem_cons.mpr ⟨eg_k121, List.forall_mem_cons.mpr ⟨eg_k122, List.forall_mem_cons.mpr ⟨eg_k123, List.forall_mem_cons.mpr ⟨eg_k124, List.forall_mem_cons.mpr ⟨eg_k125, List.forall_mem_cons.mpr ⟨eg_k126, List.forall_mem_cons.mpr ⟨eg_k127, fun _ h => nomatch h⟩⟩⟩⟩⟩⟩⟩⟩⟩⟩⟩⟩⟩⟩⟩⟩
theorem eg_K8 : ∀ q ∈ eg_M8, eg_chk q = true := List.forall_mem_cons.mpr ⟨eg_k128, List.forall_mem_cons.mpr ⟨eg_k129, List.forall_mem_cons.mpr ⟨eg_k130, List.forall_mem_cons.mpr ⟨eg_k131, List.forall_mem_cons.mpr ⟨eg_k132, List.forall_mem_cons.mpr ⟨eg_k133, List.forall_mem_cons.mpr ⟨eg_k134, List.forall_mem_cons.mpr ⟨eg_k135, List.forall_mem_cons.mpr ⟨eg_k136, List.forall_mem_cons.mpr ⟨eg_k137, List.forall_mem_cons.mpr ⟨eg_k138, List.forall_mem_cons.mpr ⟨eg_k139, List.forall_mem_cons.mpr ⟨eg_k140, List.forall_mem_cons.mpr ⟨eg_k141, List.forall_mem_cons.mpr ⟨eg_k142, List.forall_mem_cons.mpr ⟨eg_k143, fun _ h => nomatch h⟩⟩⟩⟩⟩⟩⟩⟩⟩⟩⟩⟩⟩⟩⟩⟩
theorem eg_K9 : ∀ q ∈ eg_M9, eg_chk q = true := List.forall_mem_cons.mpr ⟨eg_k144, List.forall_mem_cons.mpr ⟨eg_k145, List.forall_mem_cons.mpr ⟨eg_k146, List.forall_mem_cons.mpr ⟨eg_k147, List.forall_mem_cons.mpr ⟨eg_k148, List.forall_mem_cons.mpr ⟨eg_k149, List.forall_mem_cons.mpr ⟨eg_k150, List.forall_mem_cons.mpr ⟨eg_k151, List.forall_mem_cons.mpr ⟨eg_k152, List.forall_mem_cons.mpr ⟨eg_k153, List.forall_mem_cons.mpr ⟨eg_k154, List.forall_mem_cons.mpr ⟨eg_k155, List.forall_mem_cons.mpr ⟨eg_k156, List.forall_mem_cons.mpr ⟨eg_k157, List.forall_mem_cons.mpr ⟨eg_k158, List.forall_mem_cons.mpr ⟨eg_k159, fun _ h => nomatch h⟩⟩⟩⟩⟩⟩⟩⟩⟩⟩⟩⟩⟩⟩⟩⟩
theorem eg_K10 : ∀ q ∈ eg_M10, eg_chk q = true := List.forall_mem_cons.mpr ⟨eg_k160, List.forall_mem_cons.mpr ⟨eg_k161, List.forall_mem_cons.mpr ⟨eg_k162, List.forall_mem_cons.mpr ⟨eg_k163, List.forall_mem_cons.mpr ⟨eg_k164, List.forall_mem_cons.mpr ⟨eg_k165, List.forall_mem_cons.mpr ⟨eg_k166, List.forall_mem_cons.mpr ⟨eg_k167, List.forall_mem_cons.mpr ⟨eg_k168, List.forall_mem_cons.mpr ⟨eg_k169, List.forall_mem_cons.mpr ⟨eg_k170, List.forall_mem_cons.mpr ⟨eg_k171, List.forall_mem_cons.mpr ⟨eg_k172, List.forall_mem_cons.mpr ⟨eg_k173, List.forall_mem_cons.mpr ⟨eg_k174, List.forall_mem_cons.mpr ⟨eg_k175, fun _ h => nomatch h⟩⟩⟩⟩⟩⟩⟩⟩⟩⟩⟩⟩⟩⟩⟩⟩
theorem eg_K11 : ∀ q ∈ eg_M11, eg_chk q = true := List.forall_mem_cons.mpr ⟨eg_k176, List.forall_mem_cons.mpr ⟨eg_k177, List.forall_mem_cons.mpr ⟨eg_k178, List.forall_mem_cons.mpr ⟨eg_k179, List.forall_mem_cons.mpr ⟨eg_k180, List.forall_mem_cons.mpr ⟨eg_k181, List.forall_mem_cons.mpr ⟨eg_k182, List.forall_mem_cons.mpr ⟨eg_k183, List.forall_mem_cons.mpr ⟨eg_k184, List.forall_mem_cons.mpr ⟨eg_k185, List.forall_mem_cons.mpr ⟨eg_k186, List.forall_mem_cons.mpr ⟨eg_k187, List.forall_mem_cons.mpr ⟨eg_k188, List.forall_mem_cons.mpr ⟨eg_k189, List.forall_mem_cons.mpr ⟨eg_k190, List.forall_mem_cons.mpr ⟨eg_k191, fun _ h => nomatch h⟩⟩⟩⟩⟩⟩⟩⟩⟩⟩⟩⟩⟩⟩⟩⟩
theorem eg_K12 : ∀ q ∈ eg_M12, eg_chk q = true := List.forall_mem_cons.mpr ⟨eg_k192, List.forall_mem_cons.mpr ⟨eg_k193, List.forall_mem_cons.mpr ⟨eg_k194, List.forall_mem_cons.mpr ⟨eg_k195, List.forall_mem_cons.mpr ⟨eg_k196, List.forall_mem_cons.mpr ⟨eg_k197, List.forall_mem_cons.mpr ⟨eg_k198, List.forall_mem_cons.mpr ⟨eg_k199, List.forall_mem_cons.mpr ⟨eg_k200, List.forall_mem_cons.mpr ⟨eg_k201, List.forall_mem_cons.mpr ⟨eg_k202, List.forall_mem_cons.mpr ⟨eg_k203, List.forall_mem_cons.mpr ⟨eg_k204, List.forall_mem_cons.mpr ⟨eg_k205, List.forall_mem_cons.mpr ⟨eg_k206, List.forall_mem_cons.mpr ⟨eg_k207, fun _ h => nomatch h⟩⟩⟩⟩⟩⟩⟩⟩⟩⟩⟩⟩⟩⟩⟩⟩
theorem eg_K13 : ∀ q ∈ eg_M13, eg_chk q = true := List.forall_mem_cons.mpr ⟨eg_k208, List.forall_mem_cons.mpr ⟨eg_k209, List.forall_mem_cons.mpr ⟨eg_k210, List.forall_mem_cons.mpr ⟨eg_k211, List.forall_mem_cons.mpr ⟨eg_k212, List.forall_mem_cons.mpr ⟨eg_k213, List.forall_mem_cons.mpr ⟨eg_k214, List.forall_mem_cons.mpr ⟨eg_k215, List.forall_mem_cons.mpr ⟨eg_k216, List.forall_mem_cons.mpr ⟨eg_k217, List.forall_mem_cons.mpr ⟨eg_k218, List.forall_mem_cons.mpr ⟨eg_k219, List.forall_mem_cons.mpr ⟨eg_k220, List.forall_mem_cons.mpr ⟨eg_k221, List.forall_mem_cons.mpr ⟨eg_k222, List.forall_mem_cons.mpr ⟨eg_k223, fun _ h => nomatch h⟩⟩⟩⟩⟩⟩⟩⟩⟩⟩⟩⟩⟩⟩⟩⟩
theorem eg_K14 : ∀ q ∈ eg_M14, eg_chk q = true := List.forall_mem_cons.mpr ⟨eg_k224, List.forall_mem_cons.mpr ⟨eg_k225, List.forall_mem_cons.mpr ⟨eg_k226, List.forall_mem_cons.mpr ⟨eg_k227, List.forall_mem_cons.mpr ⟨eg_k228, List.forall_mem_cons.mpr ⟨eg_k229, List.forall_mem_cons.mpr ⟨eg_k230, List.forall_mem_cons.mpr ⟨eg_k231, List.forall_mem_cons.mpr ⟨eg_k232, List.forall_mem_cons.mpr ⟨eg_k233, List.forall_mem_cons.mpr ⟨eg_k234, List.forall_mem_cons.mpr ⟨eg_k235, List.forall_mem_cons.mpr ⟨eg_k236, List.forall_mem_cons.mpr ⟨eg_k237, List.forall_mem_cons.mpr ⟨eg_k238, List.forall_mem_cons.mpr ⟨eg_k239, fun _ h => nomatch h⟩⟩⟩⟩⟩⟩⟩⟩⟩⟩⟩⟩⟩⟩⟩⟩
theorem eg_K15 : ∀ q ∈ eg_M15, eg_chk q = true := List.forall_mem_cons.mpr ⟨eg_k240, List.forall_mem_cons.mpr ⟨eg_k241, List.forall_mem_cons.mpr ⟨eg_k242, List.forall_mem_cons.mpr ⟨eg_k243, List.forall_mem_cons.mpr ⟨eg_k244, List.forall_mem_cons.mpr ⟨eg_k245, List.forall_mem_cons.mpr ⟨eg_k246, List.forall_mem_cons.mpr ⟨eg_k247, List.forall_mem_cons.mpr ⟨eg_k248, List.forall_mem_cons.mpr ⟨eg_k249, List.forall_mem_cons.mpr ⟨eg_k250, List.forall_mem_cons.mpr ⟨eg_k251, List.forall_mem_cons.mpr ⟨eg_k252, List.forall_mem_cons.mpr ⟨eg_k253, List.forall_mem_cons.mpr ⟨eg_k254, List.forall_mem_cons.mpr ⟨eg_k255, fun _ h => nomatch h⟩⟩⟩⟩⟩⟩⟩⟩⟩⟩⟩⟩⟩⟩⟩⟩
theorem eg_K16 : ∀ q ∈ eg_M16, eg_chk q = true := List.forall_mem_cons.mpr ⟨eg_k256, List.forall_mem_cons.mpr ⟨eg_k257, List.forall_mem_cons.mpr ⟨eg_k258, List.forall_mem_cons.mpr ⟨eg_k259, List.forall_mem_cons.mpr ⟨eg_k260, List.forall_mem_cons.mpr ⟨eg_k261, List.forall_mem_cons.mpr ⟨eg_k262, List.forall_mem_cons.mpr ⟨eg_k263, List.forall_mem_cons.mpr ⟨eg_k264, List.forall_mem_cons.mpr ⟨eg_k265, List.forall_mem_cons.mpr ⟨eg_k266, List.forall_mem_cons.mpr ⟨eg_k267, List.forall_mem_cons.mpr ⟨eg_k268, List.forall_mem_cons.mpr ⟨eg_k269, List.forall_mem_cons.mpr ⟨eg_k270, List.forall_mem_cons.mpr ⟨eg_k271, fun _ h => nomatch h⟩⟩⟩⟩⟩⟩⟩⟩⟩⟩⟩⟩⟩⟩⟩⟩
theorem eg_K17 : ∀ q ∈ eg_M17, eg_chk q = true := List.forall_mem_cons.mpr ⟨eg_k272, List.forall_mem_cons.mpr ⟨eg_k273, List.forall_mem_cons.mpr ⟨eg_k274, List.forall_mem_cons.mpr ⟨eg_k275, List.forall_mem_cons.mpr ⟨eg_k276, List.forall_mem_cons.mpr ⟨eg_k277, List.forall_mem_cons.mpr ⟨eg_k278, List.forall_mem_cons.mpr ⟨eg_k279, List.forall_mem_cons.mpr ⟨eg_k280, List.forall_mem_cons.mpr ⟨eg_k281, List.forall_mem_cons.mpr ⟨eg_k282, List.forall_mem_cons.mpr ⟨eg_k283, List.forall_mem_cons.mpr ⟨eg_k284, List.forall_mem_cons.mpr ⟨eg_k285, List.forall_mem_cons.mpr ⟨eg_k286, List.forall_mem_cons.mpr ⟨eg_k287, fun _ h => nomatch h⟩⟩⟩⟩⟩⟩⟩⟩⟩⟩⟩⟩⟩⟩⟩⟩
theorem eg_K18 : ∀ q ∈ eg_M18, eg_chk q = true := List.forall_mem_cons.mpr ⟨eg_k288, List.forall_mem_cons.mpr ⟨eg_k289, List.forall_mem_cons.mpr ⟨eg_k290, List.forall_mem_cons.mpr ⟨eg_k291, List.forall_mem_cons.mpr ⟨eg_k292, List.forall_mem_cons.mpr ⟨eg_k293, List.forall_mem_cons.mpr ⟨eg_k294, List.forall_mem_cons.mpr ⟨eg_k295, List.forall_mem_cons.mpr ⟨eg_k296, List.forall_mem_cons.mpr ⟨eg_k297, List.forall_mem_cons.mpr ⟨eg_k298, List.forall_mem_cons.mpr ⟨eg_k299, List.forall_mem_cons.mpr ⟨eg_k300, List.forall_mem_cons.mpr ⟨eg_k301, List.forall_mem_cons.mpr ⟨eg_k302, List.forall_mem_cons.mpr ⟨eg_k303, fun _ h => nomatch h⟩⟩⟩⟩⟩⟩⟩⟩⟩⟩⟩⟩⟩⟩⟩⟩
theorem eg_K19 : ∀ q ∈ eg_M19, eg_chk q = true := List.forall_mem_cons.mpr ⟨eg_k304, List.forall_mem_cons.mpr ⟨eg_k305, List.forall_mem_cons.mpr ⟨eg_k306, List.forall_mem_cons.mpr ⟨eg_k307, List.forall_mem_cons.mpr ⟨eg_k308, List.forall_mem_cons.mpr ⟨eg_k309, List.forall_mem_cons.mpr ⟨eg_k310, List.forall_mem_cons.mpr ⟨eg_k311, List.forall_mem_cons.mpr ⟨eg_k312, List.forall_mem_cons.mpr ⟨eg_k313, List.forall_mem_cons.mpr ⟨eg_k314, List.forall_mem_cons.mpr ⟨eg_k315, fun _ h => nomatch h⟩⟩⟩⟩⟩⟩⟩⟩⟩⟩⟩⟩
theorem eg_KK : ∀ l ∈ eg_MM, ∀ q ∈ l, eg_chk q = true := List.forall_mem_cons.mpr ⟨eg_K0, List.forall_mem_cons.mpr ⟨eg_K1, List.forall_mem_cons.mpr ⟨eg_K2, List.forall_mem_cons.mpr ⟨eg_K3, List.forall_mem_cons.mpr ⟨eg_K4, List.forall_mem_cons.mpr ⟨eg_K5, List.forall_mem_cons.mpr ⟨eg_K6, List.forall_mem_cons.mpr ⟨eg_K7, List.forall_mem_cons.mpr ⟨eg_K8, List.forall_mem_cons.mpr ⟨eg_K9, List.forall_mem_cons.mpr ⟨eg_K10, List.forall_mem_cons.mpr ⟨eg_K11, List.forall_mem_cons.mpr ⟨eg_K12, List.forall_mem_cons.mpr ⟨eg_K13, List.forall_mem_cons.mpr ⟨eg_K14, List.forall_mem_cons.mpr ⟨eg_K15, List.forall_mem_cons.mpr ⟨eg_K16, List.forall_mem_cons.mpr ⟨eg_K17, List.forall_mem_cons.mpr ⟨eg_K18, List.forall_mem_cons.mpr ⟨eg_K19, fun _ h => nomatch h⟩⟩⟩⟩⟩⟩⟩⟩⟩⟩⟩⟩⟩⟩⟩⟩⟩⟩⟩⟩
theorem eg_me_in (k : Nat) : eg_chk (eg_me k) = true := by
  unfold eg_me
  generalize hl : eg_MM.getD (k / 16) [] = l
  have h1 : ∀ q ∈ l, eg_chk q = true := by
    rw [List.getD_eq_getElem?_getD] at hl
    cases h : eg_MM[k / 16]? with
    | none => rw [h] at hl; subst hl; exact fun _ h => nomatch h
    | some l' => rw [h] at hl; subst hl; exact eg_KK l' (List.mem_of_getElem? h)
  rw [List.getD_eq_getElem?_getD]
  cases h : l[k % 16]? with
  | none => rfl
  | some q => exact h1 q (List.mem_of_getElem? h)
theorem eg_dec (k : Nat) : ∀ e ∈ (eg_me k).2, decode (eg_me k).1.2.1 e.1 = .ok e.2 := fun e h => of_decide_eq_true (List.all_eq_true.mp (eg_me_in k) e h)
