/-! ===== the law's acts: its contract; what the wrappers answer (written by wip/p28/gen/acts1.py) ===== -/
def tL_acts : List XE := [(0, .iload 4, 2, 0, 0, []), (2, .iconst 5, 1, 0, 0, []), (3, .ishr, 1, 0, 0, []), (4, .ldc 46, 2, 0, 0, [(10000000, 0)]), (6, .invokestatic 47, 3, 95, 0, []), (9, .istore 5, 2, 0, 0, []), (11, .iload 5, 2, 0, 0, []), (13, .iconst 2, 1, 0, 0, []), (14, .irem, 1, 0, 0, []), (15, .istore 6, 2, 0, 0, []), (17, .iload 4, 2, 0, 0, []), (19, .bipush 18, 2, 0, 0, []), (21, .invokestatic 47, 3, 95, 0, []), (24, .tableswitch 652 0 13 #[72, 72, 72, 209, 209, 209, 350, 350, 350, 385, 385, 385, 490, 577], 72, 676, 0, [(0, 96), (1, 96), (2, 96), (3, 233), (4, 233), (5, 233), (6, 374), (7, 374), (8, 374), (9, 409), (10, 409), (11, 409), (12, 514), (13, 601)]), (96, .iload 5, 2, 0, 0, []), (98, .iconst 2, 1, 0, 0, []), (99, .idiv, 1, 0, 0, []), (100, .sipush 1000, 3, 0, 0, []), (103, .irem, 1, 0, 0, []), (104, .istore 7, 2, 0, 0, []), (106, .iload 7, 2, 0, 0, []), (108, .iconst 1, 1, 0, 0, []), (109, .iadd, 1, 0, 0, []), (110, .iload 5, 2, 0, 0, []), (112, .bipush 7, 2, 0, 0, []), (114, .idiv, 1, 0, 0, []), (115, .sipush 1000, 3, 0, 0, []), (118, .iload 7, 2, 0, 0, []), (120, .isub, 1, 0, 0, []), (121, .irem, 1, 0, 0, []), (122, .iadd, 1, 0, 0, []), (123, .istore 8, 2, 0, 0, []), (125, .sipush 10000, 3, 0, 0, []), (128, .aload_n 2, 1, 0, 0, []), (129, .bipush 16, 2, 0, 0, []), (131, .iload 6, 2, 0, 0, []), (133, .imul, 1, 0, 0, []), (134, .iconst 5, 1, 0, 0, []), (135, .iadd, 1, 0, 0, []), (136, .iaload, 1, 0, 0, []), (137, .imul, 1, 0, 0, []), (138, .aload_n 2, 1, 0, 0, []), (139, .bipush 16, 2, 0, 0, []), (141, .iload 6, 2, 0, 0, []), (143, .imul, 1, 0, 0, []), (144, .bipush 6, 2, 0, 0, []), (146, .iadd, 1, 0, 0, []), (147, .iaload, 1, 0, 0, []), (148, .iadd, 1, 0, 0, []), (149, .istore 9, 2, 0, 0, []), (151, .aload_n 2, 1, 0, 0, []), (152, .bipush 16, 2, 0, 0, []), (154, .iload 6, 2, 0, 0, []), (156, .imul, 1, 0, 0, []), (157, .iconst 5, 1, 0, 0, []), (158, .iadd, 1, 0, 0, []), (159, .iload 7, 2, 0, 0, []), (161, .iastore, 1, 0, 0, []), (162, .aload_n 2, 1, 0, 0, []), (163, .bipush 16, 2, 0, 0, []), (165, .iload 6, 2, 0, 0, []), (167, .imul, 1, 0, 0, []), (168, .bipush 6, 2, 0, 0, []), (170, .iadd, 1, 0, 0, []), (171, .iload 8, 2, 0, 0, []), (173, .iastore, 1, 0, 0, []), (174, .aload_n 2, 1, 0, 0, []), (175, .bipush 16, 2, 0, 0, []), (177, .iload 6, 2, 0, 0, []), (179, .imul, 1, 0, 0, []), (180, .bipush 7, 2, 0, 0, []), (182, .iadd, 1, 0, 0, []), (183, .iload 5, 2, 0, 0, []), (185, .iconst 3, 1, 0, 0, []), (186, .idiv, 1, 0, 0, []), (187, .iconst 3, 1, 0, 0, []), (188, .irem, 1, 0, 0, []), (189, .ifCond .ne 7, 3, 196, 0, []), (192, .iconst 1, 1, 0, 0, []), (193, .goto 4, 3, 197, 0, []), (196, .iconst 0, 1, 0, 0, []), (197, .iastore, 1, 0, 0, []), (198, .aload_n 0, 1, 0, 0, []), (199, .iload 6, 2, 0, 0, []), (201, .iload 7, 2, 0, 0, []), (203, .iload 8, 2, 0, 0, []), (205, .iload 5, 2, 0, 0, []), (207, .iconst 3, 1, 0, 0, []), (208, .idiv, 1, 0, 0, []), (209, .iconst 3, 1, 0, 0, []), (210, .irem, 1, 0, 0, []), (211, .ifCond .ne 7, 3, 218, 0, []), (214, .iconst 1, 1, 0, 0, []), (215, .goto 4, 3, 219, 0, []), (218, .iconst 0, 1, 0, 0, []), (219, .invokestatic 50, 3, 101, 0, []), (222, .iload 9, 2, 0, 0, []), (224, .if_icmp .ne 7, 3, 231, 0, []), (227, .iconst 1, 1, 0, 0, []), (228, .goto 4, 3, 232, 0, []), (231, .iconst 0, 1, 0, 0, []), (232, .ireturn, 1, 0, 0, []), (233, .iload 5, 2, 0, 0, []), (235, .iconst 2, 1, 0, 0, []), (236, .idiv, 1, 0, 0, []), (237, .iconst 5, 1, 0, 0, []), (238, .irem, 1, 0, 0, []), (239, .istore 10, 2, 0, 0, []), (241, .iload 10, 2, 0, 0, []), (243, .ifCond .ne 29, 3, 272, 0, []), (246, .iconst 1, 1, 0, 0, []), (247, .iload 5, 2, 0, 0, []), (249, .bipush 10, 2, 0, 0, []), (251, .idiv, 1, 0, 0, []), (252, .iload 5, 2, 0, 0, []), (254, .iconst 3, 1, 0, 0, []), (255, .irem, 1, 0, 0, []), (256, .ifCond .ne 9, 3, 265, 0, []), (259, .sipush 1000, 3, 0, 0, []), (262, .goto 5, 3, 267, 0, []), (265, .bipush 40, 2, 0, 0, []), (267, .irem, 1, 0, 0, []), (268, .iadd, 1, 0, 0, []), (269, .goto 58, 3, 327, 0, []), (272, .iload 10, 2, 0, 0, []), (274, .iconst 3, 1, 0, 0, []), (275, .if_icmp .ne 15, 3, 290, 0, []), (278, .iload 5, 2, 0, 0, []), (280, .bipush 10, 2, 0, 0, []), (282, .idiv, 1, 0, 0, []), (283, .sipush 1001, 3, 0, 0, []), (286, .irem, 1, 0, 0, []), (287, .goto 40, 3, 327, 0, []), (290, .iload 10, 2, 0, 0, []), (292, .iconst 4, 1, 0, 0, []), (293, .if_icmp .ne 13, 3, 306, 0, []), (296, .iload 5, 2, 0, 0, []), (298, .bipush 10, 2, 0, 0, []), (300, .idiv, 1, 0, 0, []), (301, .iconst 3, 1, 0, 0, []), (302, .irem, 1, 0, 0, []), (303, .goto 24, 3, 327, 0, []), (306, .iload 5, 2, 0, 0, []), (308, .bipush 10, 2, 0, 0, []), (310, .idiv, 1, 0, 0, []), (311, .iload 5, 2, 0, 0, []), (313, .iconst 3, 1, 0, 0, []), (314, .irem, 1, 0, 0, []), (315, .ifCond .ne 9, 3, 324, 0, []), (318, .sipush 301, 3, 0, 0, []), (321, .goto 5, 3, 326, 0, []), (324, .bipush 30, 2, 0, 0, []), (326, .irem, 1, 0, 0, []), (327, .istore 11, 2, 0, 0, []), (329, .aload_n 2, 1, 0, 0, []), (330, .bipush 16, 2, 0, 0, []), (332, .iload 6, 2, 0, 0, []), (334, .imul, 1, 0, 0, []), (335, .iload 10, 2, 0, 0, []), (337, .iadd, 1, 0, 0, []), (338, .iaload, 1, 0, 0, []), (339, .istore 12, 2, 0, 0, []), (341, .aload_n 2, 1, 0, 0, []), (342, .bipush 16, 2, 0, 0, []), (344, .iload 6, 2, 0, 0, []), (346, .imul, 1, 0, 0, []), (347, .iload 10, 2, 0, 0, []), (349, .iadd, 1, 0, 0, []), (350, .iload 11, 2, 0, 0, []), (352, .iastore, 1, 0, 0, []), (353, .aload_n 0, 1, 0, 0, []), (354, .iload 6, 2, 0, 0, []), (356, .iload 10, 2, 0, 0, []), (358, .iload 11, 2, 0, 0, []), (360, .invokestatic 54, 3, 109, 0, []), (363, .iload 12, 2, 0, 0, []), (365, .if_icmp .ne 7, 3, 372, 0, []), (368, .iconst 1, 1, 0, 0, []), (369, .goto 4, 3, 373, 0, []), (372, .iconst 0, 1, 0, 0, []), (373, .ireturn, 1, 0, 0, []), (374, .iload 5, 2, 0, 0, []), (376, .sipush 1001, 3, 0, 0, []), (379, .irem, 1, 0, 0, []), (380, .istore 13, 2, 0, 0, []), (382, .aload_n 1, 1, 0, 0, []), (383, .iconst 0, 1, 0, 0, []), (384, .iaload, 1, 0, 0, []), (385, .istore 14, 2, 0, 0, []), (387, .aload_n 1, 1, 0, 0, []), (388, .iconst 0, 1, 0, 0, []), (389, .iload 13, 2, 0, 0, []), (391, .iastore, 1, 0, 0, []), (392, .aload_n 0, 1, 0, 0, []), (393, .iload 13, 2, 0, 0, []), (395, .invokestatic 58, 3, 117, 0, []), (398, .iload 14, 2, 0, 0, []), (400, .if_icmp .ne 7, 3, 407, 0, []), (403, .iconst 1, 1, 0, 0, []), (404, .goto 4, 3, 408, 0, []), (407, .iconst 0, 1, 0, 0, []), (408, .ireturn, 1, 0, 0, []), (409, .iload 5, 2, 0, 0, []), (411, .iconst 4, 1, 0, 0, []), (412, .irem, 1, 0, 0, []), (413, .istore 15, 2, 0, 0, []), (415, .iload 15, 2, 0, 0, []), (417, .ifCond .ne 12, 3, 429, 0, []), (420, .iload 5, 2, 0, 0, []), (422, .iconst 4, 1, 0, 0, []), (423, .idiv, 1, 0, 0, []), (424, .iconst 2, 1, 0, 0, []), (425, .irem, 1, 0, 0, []), (426, .goto 51, 3, 477, 0, []), (429, .iload 15, 2, 0, 0, []), (431, .iconst 1, 1, 0, 0, []), (432, .if_icmp .ne 18, 3, 450, 0, []), (435, .iload 5, 2, 0, 0, []), (437, .iconst 4, 1, 0, 0, []), (438, .idiv, 1, 0, 0, []), (439, .sipush 20001, 3, 0, 0, []), (442, .irem, 1, 0, 0, []), (443, .sipush 10000, 3, 0, 0, []), (446, .isub, 1, 0, 0, []), (447, .goto 30, 3, 477, 0, []), (450, .iload 15, 2, 0, 0, []), (452, .iconst 2, 1, 0, 0, []), (453, .if_icmp .ne 14, 3, 467, 0, []), (456, .iload 5, 2, 0, 0, []), (458, .iconst 4, 1, 0, 0, []), (459, .idiv, 1, 0, 0, []), (460, .sipush 2001, 3, 0, 0, []), (463, .irem, 1, 0, 0, []), (464, .goto 13, 3, 477, 0, []), (467, .iconst 1, 1, 0, 0, []), (468, .iload 5, 2, 0, 0, []), (470, .iconst 4, 1, 0, 0, []), (471, .idiv, 1, 0, 0, []), (472, .sipush 1000, 3, 0, 0, []), (475, .irem, 1, 0, 0, []), (476, .iadd, 1, 0, 0, []), (477, .istore 16, 2, 0, 0, []), (479, .aload_n 1, 1, 0, 0, []), (480, .iconst 1, 1, 0, 0, []), (481, .iload 15, 2, 0, 0, []), (483, .iadd, 1, 0, 0, []), (484, .iaload, 1, 0, 0, []), (485, .istore 17, 2, 0, 0, []), (487, .aload_n 1, 1, 0, 0, []), (488, .iconst 1, 1, 0, 0, []), (489, .iload 15, 2, 0, 0, []), (491, .iadd, 1, 0, 0, []), (492, .iload 16, 2, 0, 0, []), (494, .iastore, 1, 0, 0, []), (495, .aload_n 0, 1, 0, 0, []), (496, .iload 15, 2, 0, 0, []), (498, .iload 16, 2, 0, 0, []), (500, .invokestatic 62, 3, 125, 0, []), (503, .iload 17, 2, 0, 0, []), (505, .if_icmp .ne 7, 3, 512, 0, []), (508, .iconst 1, 1, 0, 0, []), (509, .goto 4, 3, 513, 0, []), (512, .iconst 0, 1, 0, 0, []), (513, .ireturn, 1, 0, 0, []), (514, .iload 5, 2, 0, 0, []), (516, .iconst 3, 1, 0, 0, []), (517, .irem, 1, 0, 0, []), (518, .ifCond .le 22, 3, 540, 0, []), (521, .aload_n 0, 1, 0, 0, []), (522, .iconst 2, 1, 0, 0, []), (523, .iload 6, 2, 0, 0, []), (525, .iadd, 1, 0, 0, []), (526, .invokestatic 66, 3, 133, 0, []), (529, .ldc 69, 2, 0, 0, [((-2000000001), 0)]), (531, .if_icmp .ne 7, 3, 538, 0, []), (534, .iconst 1, 1, 0, 0, []), (535, .goto 4, 3, 539, 0, []), (538, .iconst 0, 1, 0, 0, []), (539, .ireturn, 1, 0, 0, []), (540, .aload_n 2, 1, 0, 0, []), (541, .iload 6, 2, 0, 0, []), (543, .invokestatic 19, 3, 39, 0, []), (546, .istore 18, 2, 0, 0, []), (548, .aload_n 2, 1, 0, 0, []), (549, .bipush 16, 2, 0, 0, []), (551, .iload 6, 2, 0, 0, []), (553, .imul, 1, 0, 0, []), (554, .bipush 11, 2, 0, 0, []), (556, .iadd, 1, 0, 0, []), (557, .iconst 0, 1, 0, 0, []), (558, .iastore, 1, 0, 0, []), (559, .aload_n 2, 1, 0, 0, []), (560, .bipush 16, 2, 0, 0, []), (562, .iload 6, 2, 0, 0, []), (564, .imul, 1, 0, 0, []), (565, .bipush 12, 2, 0, 0, []), (567, .iadd, 1, 0, 0, []), (568, .iconst 0, 1, 0, 0, []), (569, .iastore, 1, 0, 0, []), (570, .aload_n 2, 1, 0, 0, []), (571, .bipush 16, 2, 0, 0, []), (573, .iload 6, 2, 0, 0, []), (575, .imul, 1, 0, 0, []), (576, .bipush 15, 2, 0, 0, []), (578, .iadd, 1, 0, 0, []), (579, .dup2, 1, 0, 0, []), (580, .iaload, 1, 0, 0, []), (581, .iconst 1, 1, 0, 0, []), (582, .iadd, 1, 0, 0, []), (583, .iastore, 1, 0, 0, []), (584, .aload_n 0, 1, 0, 0, []), (585, .iload 6, 2, 0, 0, []), (587, .invokestatic 66, 3, 133, 0, []), (590, .iload 18, 2, 0, 0, []), (592, .if_icmp .ne 7, 3, 599, 0, []), (595, .iconst 1, 1, 0, 0, []), (596, .goto 4, 3, 600, 0, []), (599, .iconst 0, 1, 0, 0, []), (600, .ireturn, 1, 0, 0, []), (601, .iload 5, 2, 0, 0, []), (603, .iconst 2, 1, 0, 0, []), (604, .idiv, 1, 0, 0, []), (605, .sipush 1001, 3, 0, 0, []), (608, .irem, 1, 0, 0, []), (609, .istore 19, 2, 0, 0, []), (611, .aload_n 2, 1, 0, 0, []), (612, .bipush 16, 2, 0, 0, []), (614, .iload 6, 2, 0, 0, []), (616, .imul, 1, 0, 0, []), (617, .bipush 8, 2, 0, 0, []), (619, .iadd, 1, 0, 0, []), (620, .iaload, 1, 0, 0, []), (621, .istore 20, 2, 0, 0, []), (623, .aload_n 2, 1, 0, 0, []), (624, .bipush 16, 2, 0, 0, []), (626, .iload 6, 2, 0, 0, []), (628, .imul, 1, 0, 0, []), (629, .bipush 8, 2, 0, 0, []), (631, .iadd, 1, 0, 0, []), (632, .iload 19, 2, 0, 0, []), (634, .iastore, 1, 0, 0, []), (635, .aload_n 2, 1, 0, 0, []), (636, .bipush 16, 2, 0, 0, []), (638, .iload 6, 2, 0, 0, []), (640, .imul, 1, 0, 0, []), (641, .bipush 9, 2, 0, 0, []), (643, .iadd, 1, 0, 0, []), (644, .iconst 0, 1, 0, 0, []), (645, .iastore, 1, 0, 0, []), (646, .aload_n 2, 1, 0, 0, []), (647, .bipush 16, 2, 0, 0, []), (649, .iload 6, 2, 0, 0, []), (651, .imul, 1, 0, 0, []), (652, .bipush 10, 2, 0, 0, []), (654, .iadd, 1, 0, 0, []), (655, .iconst 0, 1, 0, 0, []), (656, .iastore, 1, 0, 0, []), (657, .aload_n 0, 1, 0, 0, []), (658, .iload 6, 2, 0, 0, []), (660, .iload 19, 2, 0, 0, []), (662, .invokestatic 70, 3, 141, 0, []), (665, .iload 20, 2, 0, 0, []), (667, .if_icmp .ne 7, 3, 674, 0, []), (670, .iconst 1, 1, 0, 0, []), (671, .goto 4, 3, 675, 0, []), (674, .iconst 0, 1, 0, 0, []), (675, .ireturn, 1, 0, 0, []), (676, .iconst 1, 1, 0, 0, []), (677, .iload 5, 2, 0, 0, []), (679, .iload 5, 2, 0, 0, []), (681, .iconst 4, 1, 0, 0, []), (682, .irem, 1, 0, 0, []), (683, .ifCond .ne 9, 3, 692, 0, []), (686, .sipush 400, 3, 0, 0, []), (689, .goto 5, 3, 694, 0, []), (692, .bipush 25, 2, 0, 0, []), (694, .irem, 1, 0, 0, []), (695, .iadd, 1, 0, 0, []), (696, .istore 21, 2, 0, 0, []), (698, .iconst 0, 1, 0, 0, []), (699, .istore 22, 2, 0, 0, []), (701, .iconst 0, 1, 0, 0, []), (702, .istore 23, 2, 0, 0, []), (704, .iload 23, 2, 0, 0, []), (706, .iload 21, 2, 0, 0, []), (708, .if_icmp .ge 28, 3, 736, 0, []), (711, .iload 22, 2, 0, 0, []), (713, .aload_n 1, 1, 0, 0, []), (714, .aload_n 2, 1, 0, 0, []), (715, .aload_n 3, 1, 0, 0, []), (716, .invokestatic 73, 3, 147, 0, []), (719, .ifCond .eq 7, 3, 726, 0, []), (722, .iconst 1, 1, 0, 0, []), (723, .goto 4, 3, 727, 0, []), (726, .iconst 0, 1, 0, 0, []), (727, .iadd, 1, 0, 0, []), (728, .istore 22, 2, 0, 0, []), (730, .iinc 23 1, 3, 0, 0, []), (733, .goto (-29), 3, 704, 0, []), (736, .aload_n 0, 1, 0, 0, []), (737, .iload 21, 2, 0, 0, []), (739, .invokestatic 77, 3, 155, 0, []), (742, .iload 22, 2, 0, 0, []), (744, .if_icmp .ne 7, 3, 751, 0, []), (747, .iconst 1, 1, 0, 0, []), (748, .goto 4, 3, 752, 0, []), (751, .iconst 0, 1, 0, 0, []), (752, .ireturn, 1, 0, 0, [])]
theorem tL_acts_ok : xTblOK RL cL_acts xFL 24 tL_acts = true := by decide +kernel
abbrev nL_acts (X : Nat × (Nat → Int32)) : List (Nat × Nat × Nat × XS) := [(95, 2, 0, fL_low X), (101, 5, 2, fL_ranges X), (109, 4, 2, fL_sets X), (117, 2, 1, fL_signals X), (125, 3, 1, fL_tunes X), (133, 2, 1, fL_serves X), (39, 2, 0, fL_wear X), (141, 3, 2, fL_stems X), (147, 3, 1, fL_tick X), (155, 2, 2, fL_runs X)]
abbrev aStp : List (Nat × List Nat) := [(704, [0, 1, 2, 3, 21, 22, 23])]
def fL_acts (X : Nat × (Nat → Int32)) : XS := fun as σ => match as with
  | [.inr (.inr (some (6, a0))), .inr (.inr (some (9, a1))), .inr (.inr (some (9, a2))), .inr (.inr (some (9, a3))), .inl a4] => xIter X (xEnv (nL_acts X)) (fun _ _ => some none) 1 aStp tL_acts 100000 (0, [(0, .inr (.inr (some (6, a0)))), (1, .inr (.inr (some (9, a1)))), (2, .inr (.inr (some (9, a2)))), (3, .inr (.inr (some (9, a3)))), (4, .inl a4)], σ, 410)
  | _ => none
theorem uL_acts (X : Nat × (Nat → Int32)) (σ : XH) (a0 : Nat) (a1 : Nat) (a2 : Nat) (a3 : Nat) (a4 : Int32) : fL_acts X [.inr (.inr (some (6, a0))), .inr (.inr (some (9, a1))), .inr (.inr (some (9, a2))), .inr (.inr (some (9, a3))), .inl a4] σ = xIter X (xEnv (nL_acts X)) (fun _ _ => some none) 1 aStp tL_acts (99999 + 1) (0, [(0, .inr (.inr (some (6, a0)))), (1, .inr (.inr (some (9, a1)))), (2, .inr (.inr (some (9, a2)))), (3, .inr (.inr (some (9, a3)))), (4, .inl a4)], σ, 410) := rfl
theorem aEnv (l : Launch) (X : Nat × (Nat → Int32)) (hl : l.stackTraces = false) : ∀ a n κ f, xEnv (nL_acts X) a = some (n, κ, f) → xCS l X RL 9 a n κ f := xEnv_ok (L := nL_acts X) (List.forall_mem_cons.mpr ⟨xCS_S (i := 47) (n := 2) (mL_low l X) (xPk_in [205, 206, 6, 207] (by decide +kernel) (by decide +kernel)) (by decide +kernel) (by decide) (by decide), (List.forall_mem_cons.mpr ⟨xCS_SH (i := 50) (n := 5) (mL_ranges l X hl) (xPk_in [213, 214, 6, 215] (by decide +kernel) (by decide +kernel)) (by decide +kernel) (by decide) (by decide), (List.forall_mem_cons.mpr ⟨xCS_SH (i := 54) (n := 4) (mL_sets l X hl) (xPk_in [356, 357, 6, 358] (by decide +kernel) (by decide +kernel)) (by decide +kernel) (by decide) (by decide), (List.forall_mem_cons.mpr ⟨xCS_SH (i := 58) (n := 2) (mL_signals l X hl) (xPk_in [395, 396, 6, 397] (by decide +kernel) (by decide +kernel)) (by decide +kernel) (by decide) (by decide), (List.forall_mem_cons.mpr ⟨xCS_SH (i := 62) (n := 3) (mL_tunes l X hl) (xPk_in [409, 410, 6, 411] (by decide +kernel) (by decide +kernel)) (by decide +kernel) (by decide) (by decide), (List.forall_mem_cons.mpr ⟨xCS_SH (i := 66) (n := 2) (mL_serves l X hl) (xPk_in [440, 441, 6, 442] (by decide +kernel) (by decide +kernel)) (by decide +kernel) (by decide) (by decide), (List.forall_mem_cons.mpr ⟨xCS_S (i := 19) (n := 2) (mL_wear l X) (xPk_in [451, 452, 6, 453] (by decide +kernel) (by decide +kernel)) (by decide +kernel) (by decide) (by decide), (List.forall_mem_cons.mpr ⟨xCS_SH (i := 70) (n := 3) (mL_stems l X hl) (xPk_in [454, 455, 6, 456] (by decide +kernel) (by decide +kernel)) (by decide +kernel) (by decide) (by decide), (List.forall_mem_cons.mpr ⟨xCS_S (i := 73) (n := 3) (mL_tick l X) (xPk_in [465, 466, 6, 467] (by decide +kernel) (by decide +kernel)) (by decide +kernel) (by decide) (by decide), (List.forall_mem_cons.mpr ⟨xCS_SH (i := 77) (n := 2) (mL_runs l X hl) (xPk_in [495, 496, 6, 497] (by decide +kernel) (by decide +kernel)) (by decide +kernel) (by decide) (by decide), (fun _ h => absurd h List.not_mem_nil)⟩)⟩)⟩)⟩)⟩)⟩)⟩)⟩)⟩)⟩)
theorem mL_acts (l : Launch) (X : Nat × (Nat → Int32)) (hl : l.stackTraces = false) : xMet l X yL_acts cL_acts 24 (some .boolean) 9 410 (fL_acts X) :=
  xMet_of (cl := xEnv (nL_acts X)) (rt := 1) (stops := aStp) (tbl := tL_acts) (by decide +kernel) (by decide) tL_acts_ok x_FL rfl (aEnv l X hl)
    (xNoNew (by decide +kernel))
    (fun as σ q h => by
      unfold fL_acts at h
      split at h
      · exact Nat.le_of_ble_eq_true rfl
      · cases h)
    (fun as σ r σ' h => by
      unfold fL_acts at h
      split at h
      · exact ⟨100000, h⟩
      · cases h)
set_option maxRecDepth 100000 in
set_option maxHeartbeats 400000 in
theorem wL_ranges (X : Nat × (Nat → Int32)) (σ : XH) (p0 p1 p2 p3 : Int32) : (∀ v σ', fX7_setRange X [xR 6 0, xI p0, xI p1, xI p2, xI p3] σ = some (.inl (some (xI v)), σ') → fL_ranges X [xR 6 0, xI p0, xI p1, xI p2, xI p3] σ = some (.inl (some (xI v)), σ')) ∧ (fX7_setRange X [xR 6 0, xI p0, xI p1, xI p2, xI p3] σ = some (.inr 0, σ) → fL_ranges X [xR 6 0, xI p0, xI p1, xI p2, xI p3] σ = some (.inl (some (xI (-2000000001))), σ)) ∧ (fX7_setRange X [xR 6 0, xI p0, xI p1, xI p2, xI p3] σ = some (.inr 1, σ) → fL_ranges X [xR 6 0, xI p0, xI p1, xI p2, xI p3] σ = some (.inl (some (xI (-2000000002))), σ)) := by
  refine ⟨fun v σ' h => ?_, fun h => ?_, fun h => ?_⟩
  · rw [uL_ranges]
    refine wF_eq (wI_s (N := 1) ?_)
    refine wF_of h ?_
    rfl
  · rw [uL_ranges]
    refine wF_eq (wI_s (N := 1) ?_)
    refine wF_of h ?_
    rfl
  · rw [uL_ranges]
    refine wF_eq (wI_s (N := 1) ?_)
    refine wF_of h ?_
    rfl
set_option maxRecDepth 100000 in
set_option maxHeartbeats 400000 in
theorem wL_sets (X : Nat × (Nat → Int32)) (σ : XH) (p0 p1 p2 : Int32) : (∀ v σ', fX7_setValve X [xR 6 0, xI p0, xI p1, xI p2] σ = some (.inl (some (xI v)), σ') → fL_sets X [xR 6 0, xI p0, xI p1, xI p2] σ = some (.inl (some (xI v)), σ')) ∧ (fX7_setValve X [xR 6 0, xI p0, xI p1, xI p2] σ = some (.inr 0, σ) → fL_sets X [xR 6 0, xI p0, xI p1, xI p2] σ = some (.inl (some (xI (-2000000001))), σ)) ∧ (fX7_setValve X [xR 6 0, xI p0, xI p1, xI p2] σ = some (.inr 1, σ) → fL_sets X [xR 6 0, xI p0, xI p1, xI p2] σ = some (.inl (some (xI (-2000000002))), σ)) := by
  refine ⟨fun v σ' h => ?_, fun h => ?_, fun h => ?_⟩
  · rw [uL_sets]
    refine wF_eq (wI_s (N := 1) ?_)
    refine wF_of h ?_
    rfl
  · rw [uL_sets]
    refine wF_eq (wI_s (N := 1) ?_)
    refine wF_of h ?_
    rfl
  · rw [uL_sets]
    refine wF_eq (wI_s (N := 1) ?_)
    refine wF_of h ?_
    rfl
set_option maxRecDepth 100000 in
set_option maxHeartbeats 400000 in
theorem wL_signals (X : Nat × (Nat → Int32)) (σ : XH) (p0 : Int32) : (∀ v σ', fX7_setSignal X [xR 6 0, xI p0] σ = some (.inl (some (xI v)), σ') → fL_signals X [xR 6 0, xI p0] σ = some (.inl (some (xI v)), σ')) ∧ (fX7_setSignal X [xR 6 0, xI p0] σ = some (.inr 1, σ) → fL_signals X [xR 6 0, xI p0] σ = some (.inl (some (xI (-2000000002))), σ)) := by
  refine ⟨fun v σ' h => ?_, fun h => ?_⟩
  · rw [uL_signals]
    refine wF_eq (wI_s (N := 1) ?_)
    refine wF_of h ?_
    rfl
  · rw [uL_signals]
    refine wF_eq (wI_s (N := 1) ?_)
    refine wF_of h ?_
    rfl
set_option maxRecDepth 100000 in
set_option maxHeartbeats 400000 in
theorem wL_tunes (X : Nat × (Nat → Int32)) (σ : XH) (p0 p1 : Int32) : (∀ v σ', fX7_tune X [xR 6 0, xI p0, xI p1] σ = some (.inl (some (xI v)), σ') → fL_tunes X [xR 6 0, xI p0, xI p1] σ = some (.inl (some (xI v)), σ')) ∧ (fX7_tune X [xR 6 0, xI p0, xI p1] σ = some (.inr 1, σ) → fL_tunes X [xR 6 0, xI p0, xI p1] σ = some (.inl (some (xI (-2000000002))), σ)) := by
  refine ⟨fun v σ' h => ?_, fun h => ?_⟩
  · rw [uL_tunes]
    refine wF_eq (wI_s (N := 1) ?_)
    refine wF_of h ?_
    rfl
  · rw [uL_tunes]
    refine wF_eq (wI_s (N := 1) ?_)
    refine wF_of h ?_
    rfl
set_option maxRecDepth 100000 in
set_option maxHeartbeats 400000 in
theorem wL_serves (X : Nat × (Nat → Int32)) (σ : XH) (p0 : Int32) : (∀ v σ', fX7_service X [xR 6 0, xI p0] σ = some (.inl (some (xI v)), σ') → fL_serves X [xR 6 0, xI p0] σ = some (.inl (some (xI v)), σ')) ∧ (fX7_service X [xR 6 0, xI p0] σ = some (.inr 0, σ) → fL_serves X [xR 6 0, xI p0] σ = some (.inl (some (xI (-2000000001))), σ)) := by
  refine ⟨fun v σ' h => ?_, fun h => ?_⟩
  · rw [uL_serves]
    refine wF_eq (wI_s (N := 1) ?_)
    refine wF_of h ?_
    rfl
  · rw [uL_serves]
    refine wF_eq (wI_s (N := 1) ?_)
    refine wF_of h ?_
    rfl
set_option maxRecDepth 100000 in
set_option maxHeartbeats 400000 in
theorem wL_stems (X : Nat × (Nat → Int32)) (σ : XH) (p0 p1 : Int32) : (∀ v σ', fX7_putStem X [xR 6 0, xI p0, xI p1] σ = some (.inl (some (xI v)), σ') → fL_stems X [xR 6 0, xI p0, xI p1] σ = some (.inl (some (xI v)), σ')) ∧ (fX7_putStem X [xR 6 0, xI p0, xI p1] σ = some (.inr 0, σ) → fL_stems X [xR 6 0, xI p0, xI p1] σ = some (.inl (some (xI (-2000000001))), σ)) ∧ (fX7_putStem X [xR 6 0, xI p0, xI p1] σ = some (.inr 1, σ) → fL_stems X [xR 6 0, xI p0, xI p1] σ = some (.inl (some (xI (-2000000002))), σ)) := by
  refine ⟨fun v σ' h => ?_, fun h => ?_, fun h => ?_⟩
  · rw [uL_stems]
    refine wF_eq (wI_s (N := 1) ?_)
    refine wF_of h ?_
    rfl
  · rw [uL_stems]
    refine wF_eq (wI_s (N := 1) ?_)
    refine wF_of h ?_
    rfl
  · rw [uL_stems]
    refine wF_eq (wI_s (N := 1) ?_)
    refine wF_of h ?_
    rfl
set_option maxRecDepth 100000 in
set_option maxHeartbeats 400000 in
theorem wL_runs (X : Nat × (Nat → Int32)) (σ : XH) (p0 : Int32) : (∀ v σ', fX7_run X [xR 6 0, xI p0] σ = some (.inl (some (xI v)), σ') → fL_runs X [xR 6 0, xI p0] σ = some (.inl (some (xI v)), σ')) ∧ (fX7_run X [xR 6 0, xI p0] σ = some (.inr 1, σ) → fL_runs X [xR 6 0, xI p0] σ = some (.inl (some (xI (-2000000002))), σ)) ∧ (fX7_run X [xR 6 0, xI p0] σ = some (.inr 2, σ) → fL_runs X [xR 6 0, xI p0] σ = some (.inl (some (xI (-2000000003))), σ)) := by
  refine ⟨fun v σ' h => ?_, fun h => ?_, fun h => ?_⟩
  · rw [uL_runs]
    refine wF_eq (wI_s (N := 1) ?_)
    refine wF_of h ?_
    rfl
  · rw [uL_runs]
    refine wF_eq (wI_s (N := 1) ?_)
    refine wF_of h ?_
    rfl
  · rw [uL_runs]
    refine wF_eq (wI_s (N := 1) ?_)
    refine wF_of h ?_
    rfl
set_option maxRecDepth 100000 in
set_option maxHeartbeats 400000 in
theorem wL_valveOf (X : Nat × (Nat → Int32)) (σ : XH) (p0 p1 : Int32) : (∀ v σ', fX7_valve X [xR 6 0, xI p0, xI p1] σ = some (.inl (some (xI v)), σ') → fL_valveOf X [xR 6 0, xI p0, xI p1] σ = some (.inl (some (xI v)), σ')) ∧ (fX7_valve X [xR 6 0, xI p0, xI p1] σ = some (.inr 0, σ) → fL_valveOf X [xR 6 0, xI p0, xI p1] σ = some (.inl (some (xI (-2000000001))), σ)) ∧ (fX7_valve X [xR 6 0, xI p0, xI p1] σ = some (.inr 1, σ) → fL_valveOf X [xR 6 0, xI p0, xI p1] σ = some (.inl (some (xI (-2000000002))), σ)) := by
  refine ⟨fun v σ' h => ?_, fun h => ?_, fun h => ?_⟩
  · rw [uL_valveOf]
    refine wF_eq (wI_s (N := 1) ?_)
    refine wF_of h ?_
    rfl
  · rw [uL_valveOf]
    refine wF_eq (wI_s (N := 1) ?_)
    refine wF_of h ?_
    rfl
  · rw [uL_valveOf]
    refine wF_eq (wI_s (N := 1) ?_)
    refine wF_of h ?_
    rfl
set_option maxRecDepth 100000 in
set_option maxHeartbeats 400000 in
theorem wL_pairOf (X : Nat × (Nat → Int32)) (σ : XH) (p0 : Int32) : (∀ v σ', fX7_pair X [xR 6 0, xI p0] σ = some (.inl (some (xI v)), σ') → fL_pairOf X [xR 6 0, xI p0] σ = some (.inl (some (xI v)), σ')) ∧ (fX7_pair X [xR 6 0, xI p0] σ = some (.inr 1, σ) → fL_pairOf X [xR 6 0, xI p0] σ = some (.inl (some (xI (-2000000002))), σ)) := by
  refine ⟨fun v σ' h => ?_, fun h => ?_⟩
  · rw [uL_pairOf]
    refine wF_eq (wI_s (N := 1) ?_)
    refine wF_of h ?_
    rfl
  · rw [uL_pairOf]
    refine wF_eq (wI_s (N := 1) ?_)
    refine wF_of h ?_
    rfl
set_option maxRecDepth 100000 in
set_option maxHeartbeats 400000 in
theorem wL_ledgerOf (X : Nat × (Nat → Int32)) (σ : XH) (p0 p1 : Int32) : (∀ v σ', fX7_ledger X [xR 6 0, xI p0, xI p1] σ = some (.inl (some (xI v)), σ') → fL_ledgerOf X [xR 6 0, xI p0, xI p1] σ = some (.inl (some (xI v)), σ')) ∧ (fX7_ledger X [xR 6 0, xI p0, xI p1] σ = some (.inr 1, σ) → fL_ledgerOf X [xR 6 0, xI p0, xI p1] σ = some (.inl (some (xI (-2000000002))), σ)) := by
  refine ⟨fun v σ' h => ?_, fun h => ?_⟩
  · rw [uL_ledgerOf]
    refine wF_eq (wI_s (N := 1) ?_)
    refine wF_of h ?_
    rfl
  · rw [uL_ledgerOf]
    refine wF_eq (wI_s (N := 1) ?_)
    refine wF_of h ?_
    rfl
set_option maxRecDepth 100000 in
set_option maxHeartbeats 400000 in
theorem wL_sumOf (X : Nat × (Nat → Int32)) (σ : XH) (p0 p1 : Int32) : (∀ v σ', fX7_ledgerSum X [xR 6 0, xI p0, xI p1] σ = some (.inl (some (xI v)), σ') → fL_sumOf X [xR 6 0, xI p0, xI p1] σ = some (.inl (some (xI v)), σ')) ∧ (fX7_ledgerSum X [xR 6 0, xI p0, xI p1] σ = some (.inr 0, σ) → fL_sumOf X [xR 6 0, xI p0, xI p1] σ = some (.inl (some (xI (-2000000001))), σ)) ∧ (fX7_ledgerSum X [xR 6 0, xI p0, xI p1] σ = some (.inr 1, σ) → fL_sumOf X [xR 6 0, xI p0, xI p1] σ = some (.inl (some (xI (-2000000002))), σ)) := by
  refine ⟨fun v σ' h => ?_, fun h => ?_, fun h => ?_⟩
  · rw [uL_sumOf]
    refine wF_eq (wI_s (N := 1) ?_)
    refine wF_of h ?_
    rfl
  · rw [uL_sumOf]
    refine wF_eq (wI_s (N := 1) ?_)
    refine wF_of h ?_
    rfl
  · rw [uL_sumOf]
    refine wF_eq (wI_s (N := 1) ?_)
    refine wF_of h ?_
    rfl
